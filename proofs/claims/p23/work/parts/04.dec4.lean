set_option maxRecDepth 20000 in
theorem ggX4_init_X0_init : GoodIn wsX4_init wsX0_init := goodIn_r _ [26, 27, 2, 3, 28, 29, 30, 31, 32, 33, 34, 35, 61, 62, 63] (by decide +kernel) (by decide +kernel)
set_option maxRecDepth 20000 in
theorem gX4_init_X0_init : GoodIn wsX4_init (wsX0_init) := ggX4_init_X0_init
set_option maxRecDepth 20000 in
theorem ggX4_init_X3_init : GoodIn wsX4_init wsX3_init := goodIn_r _ [37, 38, 2, 3, 28, 39, 40, 41, 42, 43, 44, 45, 46, 71, 72, 73, 74, 75, 76, 77, 78, 79, 80, 81, 82, 83, 84, 85, 86, 87, 88] (by decide +kernel) (by decide +kernel)
set_option maxRecDepth 20000 in
theorem gX4_init_X3_init_n21 : GoodIn wsX4_init (wsX3_init) := ggX4_init_X3_init
set_option maxRecDepth 20000 in
theorem ggX4_init_X2_init : GoodIn wsX4_init wsX2_init := goodIn_r _ [48, 49, 2, 3, 50, 5, 6, 51, 28, 52, 53, 25, 26, 27, 29, 30, 31, 32, 33, 34, 35, 61, 62, 63, 89, 90, 91, 92, 93, 94, 95, 96] (by decide +kernel) (by decide +kernel)
set_option maxRecDepth 20000 in
theorem gX4_init_X2_init_n28 : GoodIn wsX4_init (wsX2_init) := ggX4_init_X2_init
set_option maxRecDepth 20000 in
theorem ggX4_init_X1_init : GoodIn wsX4_init wsX1_init := goodIn_r _ [56, 57, 2, 3, 58, 59, 5, 6, 60, 25, 26, 27, 28, 29, 30, 31, 32, 33, 34, 35, 97, 98, 99, 61, 62, 63] (by decide +kernel) (by decide +kernel)
set_option maxRecDepth 20000 in
theorem gX4_init_X1_init : GoodIn wsX4_init (wsX1_init) := ggX4_init_X1_init
theorem dX4_init_0 : decode cX4_init 0 = .ok (.aload_n 0, 1) := by decide +kernel
theorem dX4_init_1 : decode cX4_init 1 = .ok (.invokespecial 1, 3) := by decide +kernel
theorem dX4_init_4 : decode cX4_init 4 = .ok (.aload_n 0, 1) := by decide +kernel
theorem dX4_init_5 : decode cX4_init 5 = .ok (.new 7, 3) := by decide +kernel
theorem dX4_init_8 : decode cX4_init 8 = .ok (.dup, 1) := by decide +kernel
theorem dX4_init_9 : decode cX4_init 9 = .ok (.invokespecial 9, 3) := by decide +kernel
theorem dX4_init_12 : decode cX4_init 12 = .ok (.putfield 10, 3) := by decide +kernel
theorem dX4_init_15 : decode cX4_init 15 = .ok (.aload_n 0, 1) := by decide +kernel
theorem dX4_init_16 : decode cX4_init 16 = .ok (.new 7, 3) := by decide +kernel
theorem dX4_init_19 : decode cX4_init 19 = .ok (.dup, 1) := by decide +kernel
theorem dX4_init_20 : decode cX4_init 20 = .ok (.invokespecial 9, 3) := by decide +kernel
theorem dX4_init_23 : decode cX4_init 23 = .ok (.putfield 16, 3) := by decide +kernel
theorem dX4_init_26 : decode cX4_init 26 = .ok (.aload_n 0, 1) := by decide +kernel
theorem dX4_init_27 : decode cX4_init 27 = .ok (.new 19, 3) := by decide +kernel
theorem dX4_init_30 : decode cX4_init 30 = .ok (.dup, 1) := by decide +kernel
theorem dX4_init_31 : decode cX4_init 31 = .ok (.invokespecial 21, 3) := by decide +kernel
theorem dX4_init_34 : decode cX4_init 34 = .ok (.putfield 22, 3) := by decide +kernel
theorem dX4_init_37 : decode cX4_init 37 = .ok (.aload_n 0, 1) := by decide +kernel
theorem dX4_init_38 : decode cX4_init 38 = .ok (.new 26, 3) := by decide +kernel
theorem dX4_init_41 : decode cX4_init 41 = .ok (.dup, 1) := by decide +kernel
theorem dX4_init_42 : decode cX4_init 42 = .ok (.invokespecial 28, 3) := by decide +kernel
theorem dX4_init_45 : decode cX4_init 45 = .ok (.putfield 29, 3) := by decide +kernel
theorem dX4_init_48 : decode cX4_init 48 = .ok (.aload_n 0, 1) := by decide +kernel
theorem dX4_init_49 : decode cX4_init 49 = .ok (.new 33, 3) := by decide +kernel
theorem dX4_init_52 : decode cX4_init 52 = .ok (.dup, 1) := by decide +kernel
theorem dX4_init_53 : decode cX4_init 53 = .ok (.invokespecial 35, 3) := by decide +kernel
theorem dX4_init_56 : decode cX4_init 56 = .ok (.putfield 36, 3) := by decide +kernel
theorem dX4_init_59 : decode cX4_init 59 = .ok (.aload_n 0, 1) := by decide +kernel
theorem dX4_init_60 : decode cX4_init 60 = .ok (.iconst 2, 1) := by decide +kernel
theorem dX4_init_61 : decode cX4_init 61 = .ok (.anewarray 7, 3) := by decide +kernel
theorem dX4_init_64 : decode cX4_init 64 = .ok (.putfield 40, 3) := by decide +kernel
theorem dX4_init_67 : decode cX4_init 67 = .ok (.iconst 0, 1) := by decide +kernel
theorem dX4_init_68 : decode cX4_init 68 = .ok (.istore_n 1, 1) := by decide +kernel
theorem dX4_init_69 : decode cX4_init 69 = .ok (.iload_n 1, 1) := by decide +kernel
theorem dX4_init_70 : decode cX4_init 70 = .ok (.iconst 2, 1) := by decide +kernel
theorem dX4_init_71 : decode cX4_init 71 = .ok (.if_icmp .ge 22, 3) := by decide +kernel
theorem dX4_init_74 : decode cX4_init 74 = .ok (.aload_n 0, 1) := by decide +kernel
theorem dX4_init_75 : decode cX4_init 75 = .ok (.getfield 40, 3) := by decide +kernel
theorem dX4_init_78 : decode cX4_init 78 = .ok (.iload_n 1, 1) := by decide +kernel
theorem dX4_init_79 : decode cX4_init 79 = .ok (.new 7, 3) := by decide +kernel
theorem dX4_init_82 : decode cX4_init 82 = .ok (.dup, 1) := by decide +kernel
theorem dX4_init_83 : decode cX4_init 83 = .ok (.invokespecial 9, 3) := by decide +kernel
theorem dX4_init_86 : decode cX4_init 86 = .ok (.aastore, 1) := by decide +kernel
theorem dX4_init_87 : decode cX4_init 87 = .ok (.iinc 1 1, 3) := by decide +kernel
theorem dX4_init_90 : decode cX4_init 90 = .ok (.goto (-21), 3) := by decide +kernel
theorem dX4_init_93 : decode cX4_init 93 = .ok (.aload_n 0, 1) := by decide +kernel
theorem dX4_init_94 : decode cX4_init 94 = .ok (.iconst 2, 1) := by decide +kernel
theorem dX4_init_95 : decode cX4_init 95 = .ok (.newarray .boolean, 2) := by decide +kernel
theorem dX4_init_97 : decode cX4_init 97 = .ok (.putfield 44, 3) := by decide +kernel
theorem dX4_init_100 : decode cX4_init 100 = .ok (.return_, 1) := by decide +kernel
set_option maxRecDepth 20000 in
theorem ggX4_set_X4_within : GoodIn wsX4_set wsX4_within := goodIn_r _ [9] (by decide +kernel) (by decide +kernel)
set_option maxRecDepth 20000 in
theorem gX4_set_X4_within : GoodIn wsX4_set (va_wsS RX4 48 yX4_within wsX4_within) := goodIn_app (goodIn_of _ (by decide +kernel)) ggX4_set_X4_within
set_option maxRecDepth 20000 in
theorem ggX4_set_X0_mostRacksNeeded : GoodIn wsX4_set wsX0_mostRacksNeeded := goodIn_r _ [14, 15, 16, 17, 18, 19, 20, 21, 8, 22, 50, 51, 52] (by decide +kernel) (by decide +kernel)
set_option maxRecDepth 20000 in
theorem gX4_set_X0_mostRacksNeeded : GoodIn wsX4_set (wsV RX4 62 RX0 yX0_mostRacksNeeded wsX0_mostRacksNeeded) := goodIn_app (goodIn_of _ (by decide +kernel)) ggX4_set_X0_mostRacksNeeded
set_option maxRecDepth 20000 in
theorem ggX4_set_X1_remember : GoodIn wsX4_set wsX1_remember := goodIn_r _ [27, 28, 29, 30, 31, 32, 19, 33, 34, 35, 36, 13, 37, 38, 39, 40, 41, 42, 16, 15, 53, 54, 55, 50, 51, 52] (by decide +kernel) (by decide +kernel)
set_option maxRecDepth 20000 in
theorem gX4_set_X1_remember : GoodIn wsX4_set (wsV RX4 66 RX1 yX1_remember wsX1_remember) := goodIn_app (goodIn_of _ (by decide +kernel)) ggX4_set_X1_remember
theorem dX4_set_0 : decode cX4_set 0 = .ok (.iload_n 1, 1) := by decide +kernel
theorem dX4_set_1 : decode cX4_set 1 = .ok (.iconst 0, 1) := by decide +kernel
theorem dX4_set_2 : decode cX4_set 2 = .ok (.bipush 6, 2) := by decide +kernel
theorem dX4_set_4 : decode cX4_set 4 = .ok (.invokestatic 48, 3) := by decide +kernel
theorem dX4_set_7 : decode cX4_set 7 = .ok (.ifCond .eq 20, 3) := by decide +kernel
theorem dX4_set_10 : decode cX4_set 10 = .ok (.iload_n 2, 1) := by decide +kernel
theorem dX4_set_11 : decode cX4_set 11 = .ok (.getstatic 52, 3) := by decide +kernel
theorem dX4_set_14 : decode cX4_set 14 = .ok (.iload_n 1, 1) := by decide +kernel
theorem dX4_set_15 : decode cX4_set 15 = .ok (.iaload, 1) := by decide +kernel
theorem dX4_set_16 : decode cX4_set 16 = .ok (.getstatic 56, 3) := by decide +kernel
theorem dX4_set_19 : decode cX4_set 19 = .ok (.iload_n 1, 1) := by decide +kernel
theorem dX4_set_20 : decode cX4_set 20 = .ok (.iaload, 1) := by decide +kernel
theorem dX4_set_21 : decode cX4_set 21 = .ok (.invokestatic 48, 3) := by decide +kernel
theorem dX4_set_24 : decode cX4_set 24 = .ok (.ifCond .ne 6, 3) := by decide +kernel
theorem dX4_set_27 : decode cX4_set 27 = .ok (.bipush (-2), 2) := by decide +kernel
theorem dX4_set_29 : decode cX4_set 29 = .ok (.ireturn, 1) := by decide +kernel
theorem dX4_set_30 : decode cX4_set 30 = .ok (.iload_n 1, 1) := by decide +kernel
theorem dX4_set_31 : decode cX4_set 31 = .ok (.iconst 5, 1) := by decide +kernel
theorem dX4_set_32 : decode cX4_set 32 = .ok (.if_icmp .ne 7, 3) := by decide +kernel
theorem dX4_set_35 : decode cX4_set 35 = .ok (.iload_n 2, 1) := by decide +kernel
theorem dX4_set_36 : decode cX4_set 36 = .ok (.goto 12, 3) := by decide +kernel
theorem dX4_set_39 : decode cX4_set 39 = .ok (.aload_n 0, 1) := by decide +kernel
theorem dX4_set_40 : decode cX4_set 40 = .ok (.getfield 10, 3) := by decide +kernel
theorem dX4_set_43 : decode cX4_set 43 = .ok (.getfield 59, 3) := by decide +kernel
theorem dX4_set_46 : decode cX4_set 46 = .ok (.iconst 5, 1) := by decide +kernel
theorem dX4_set_47 : decode cX4_set 47 = .ok (.iaload, 1) := by decide +kernel
theorem dX4_set_48 : decode cX4_set 48 = .ok (.istore_n 3, 1) := by decide +kernel
theorem dX4_set_49 : decode cX4_set 49 = .ok (.iload_n 1, 1) := by decide +kernel
theorem dX4_set_50 : decode cX4_set 50 = .ok (.bipush 6, 2) := by decide +kernel
theorem dX4_set_52 : decode cX4_set 52 = .ok (.if_icmp .ne 7, 3) := by decide +kernel
theorem dX4_set_55 : decode cX4_set 55 = .ok (.iload_n 2, 1) := by decide +kernel
theorem dX4_set_56 : decode cX4_set 56 = .ok (.goto 13, 3) := by decide +kernel
theorem dX4_set_59 : decode cX4_set 59 = .ok (.aload_n 0, 1) := by decide +kernel
theorem dX4_set_60 : decode cX4_set 60 = .ok (.getfield 10, 3) := by decide +kernel
theorem dX4_set_63 : decode cX4_set 63 = .ok (.getfield 59, 3) := by decide +kernel
theorem dX4_set_66 : decode cX4_set 66 = .ok (.bipush 6, 2) := by decide +kernel
theorem dX4_set_68 : decode cX4_set 68 = .ok (.iaload, 1) := by decide +kernel
theorem dX4_set_69 : decode cX4_set 69 = .ok (.istore 4, 2) := by decide +kernel
theorem dX4_set_71 : decode cX4_set 71 = .ok (.aload_n 0, 1) := by decide +kernel
theorem dX4_set_72 : decode cX4_set 72 = .ok (.getfield 10, 3) := by decide +kernel
theorem dX4_set_75 : decode cX4_set 75 = .ok (.iload 4, 2) := by decide +kernel
theorem dX4_set_77 : decode cX4_set 77 = .ok (.invokevirtual 62, 3) := by decide +kernel
theorem dX4_set_80 : decode cX4_set 80 = .ok (.iload_n 3, 1) := by decide +kernel
theorem dX4_set_81 : decode cX4_set 81 = .ok (.if_icmp .le 6, 3) := by decide +kernel
theorem dX4_set_84 : decode cX4_set 84 = .ok (.bipush (-5), 2) := by decide +kernel
theorem dX4_set_86 : decode cX4_set 86 = .ok (.ireturn, 1) := by decide +kernel
theorem dX4_set_87 : decode cX4_set 87 = .ok (.aload_n 0, 1) := by decide +kernel
theorem dX4_set_88 : decode cX4_set 88 = .ok (.getfield 10, 3) := by decide +kernel
theorem dX4_set_91 : decode cX4_set 91 = .ok (.getfield 59, 3) := by decide +kernel
theorem dX4_set_94 : decode cX4_set 94 = .ok (.iload_n 1, 1) := by decide +kernel
theorem dX4_set_95 : decode cX4_set 95 = .ok (.iaload, 1) := by decide +kernel
theorem dX4_set_96 : decode cX4_set 96 = .ok (.istore 5, 2) := by decide +kernel
theorem dX4_set_98 : decode cX4_set 98 = .ok (.aload_n 0, 1) := by decide +kernel
theorem dX4_set_99 : decode cX4_set 99 = .ok (.getfield 36, 3) := by decide +kernel
theorem dX4_set_102 : decode cX4_set 102 = .ok (.aload_n 0, 1) := by decide +kernel
theorem dX4_set_103 : decode cX4_set 103 = .ok (.getfield 10, 3) := by decide +kernel
theorem dX4_set_106 : decode cX4_set 106 = .ok (.invokevirtual 66, 3) := by decide +kernel
theorem dX4_set_109 : decode cX4_set 109 = .ok (.aload_n 0, 1) := by decide +kernel
theorem dX4_set_110 : decode cX4_set 110 = .ok (.getfield 10, 3) := by decide +kernel
theorem dX4_set_113 : decode cX4_set 113 = .ok (.getfield 59, 3) := by decide +kernel
theorem dX4_set_116 : decode cX4_set 116 = .ok (.iload_n 1, 1) := by decide +kernel
theorem dX4_set_117 : decode cX4_set 117 = .ok (.iload_n 2, 1) := by decide +kernel
theorem dX4_set_118 : decode cX4_set 118 = .ok (.iastore, 1) := by decide +kernel
theorem dX4_set_119 : decode cX4_set 119 = .ok (.iload 5, 2) := by decide +kernel
theorem dX4_set_121 : decode cX4_set 121 = .ok (.ireturn, 1) := by decide +kernel
set_option maxRecDepth 20000 in
theorem ggX4_job_X4_within : GoodIn wsX4_job wsX4_within := goodIn_r _ [8] (by decide +kernel) (by decide +kernel)
set_option maxRecDepth 20000 in
theorem gX4_job_X4_within : GoodIn wsX4_job (va_wsS RX4 48 yX4_within wsX4_within) := goodIn_app (goodIn_of _ (by decide +kernel)) ggX4_job_X4_within
set_option maxRecDepth 20000 in
theorem ggX4_job_X4_racksFor : GoodIn wsX4_job wsX4_racksFor := goodIn_r _ [11] (by decide +kernel) (by decide +kernel)
set_option maxRecDepth 20000 in
theorem gX4_job_X4_racksFor : GoodIn wsX4_job (va_wsS RX4 70 yX4_racksFor wsX4_racksFor) := goodIn_app (goodIn_of _ (by decide +kernel)) ggX4_job_X4_racksFor
set_option maxRecDepth 20000 in
theorem ggX4_job_X1_remember : GoodIn wsX4_job wsX1_remember := goodIn_r _ [16, 17, 18, 19, 20, 21, 22, 23, 24, 25, 26, 27, 28, 29, 30, 31, 32, 33, 34, 35, 50, 51, 52, 47, 48, 49] (by decide +kernel) (by decide +kernel)
set_option maxRecDepth 20000 in
theorem gX4_job_X1_remember : GoodIn wsX4_job (wsV RX4 66 RX1 yX1_remember wsX1_remember) := goodIn_app (goodIn_of _ (by decide +kernel)) ggX4_job_X1_remember
set_option maxRecDepth 20000 in
theorem ggX4_job_X0_append : GoodIn wsX4_job wsX0_append := goodIn_r _ [39, 35, 34, 47, 48, 49] (by decide +kernel) (by decide +kernel)
set_option maxRecDepth 20000 in
theorem gX4_job_X0_append : GoodIn wsX4_job (wsV RX4 78 RX0 yX0_append wsX0_append) := goodIn_app (goodIn_of _ (by decide +kernel)) ggX4_job_X0_append
theorem dX4_job_0 : decode cX4_job 0 = .ok (.iload_n 1, 1) := by decide +kernel
theorem dX4_job_1 : decode cX4_job 1 = .ok (.iconst 0, 1) := by decide +kernel
theorem dX4_job_2 : decode cX4_job 2 = .ok (.bipush 9, 2) := by decide +kernel
theorem dX4_job_4 : decode cX4_job 4 = .ok (.invokestatic 48, 3) := by decide +kernel
theorem dX4_job_7 : decode cX4_job 7 = .ok (.ifCond .eq 35, 3) := by decide +kernel
theorem dX4_job_10 : decode cX4_job 10 = .ok (.iload_n 2, 1) := by decide +kernel
theorem dX4_job_11 : decode cX4_job 11 = .ok (.iconst 0, 1) := by decide +kernel
theorem dX4_job_12 : decode cX4_job 12 = .ok (.bipush 9, 2) := by decide +kernel
theorem dX4_job_14 : decode cX4_job 14 = .ok (.invokestatic 48, 3) := by decide +kernel
theorem dX4_job_17 : decode cX4_job 17 = .ok (.ifCond .eq 25, 3) := by decide +kernel
theorem dX4_job_20 : decode cX4_job 20 = .ok (.iload_n 3, 1) := by decide +kernel
theorem dX4_job_21 : decode cX4_job 21 = .ok (.iconst 1, 1) := by decide +kernel
theorem dX4_job_22 : decode cX4_job 22 = .ok (.bipush 20, 2) := by decide +kernel
theorem dX4_job_24 : decode cX4_job 24 = .ok (.invokestatic 48, 3) := by decide +kernel
theorem dX4_job_27 : decode cX4_job 27 = .ok (.ifCond .eq 15, 3) := by decide +kernel
theorem dX4_job_30 : decode cX4_job 30 = .ok (.iload 4, 2) := by decide +kernel
theorem dX4_job_32 : decode cX4_job 32 = .ok (.iconst 0, 1) := by decide +kernel
theorem dX4_job_33 : decode cX4_job 33 = .ok (.sipush 3000, 3) := by decide +kernel
theorem dX4_job_36 : decode cX4_job 36 = .ok (.invokestatic 48, 3) := by decide +kernel
theorem dX4_job_39 : decode cX4_job 39 = .ok (.ifCond .ne 6, 3) := by decide +kernel
theorem dX4_job_42 : decode cX4_job 42 = .ok (.bipush (-2), 2) := by decide +kernel
theorem dX4_job_44 : decode cX4_job 44 = .ok (.ireturn, 1) := by decide +kernel
theorem dX4_job_45 : decode cX4_job 45 = .ok (.iload_n 3, 1) := by decide +kernel
theorem dX4_job_46 : decode cX4_job 46 = .ok (.aload_n 0, 1) := by decide +kernel
theorem dX4_job_47 : decode cX4_job 47 = .ok (.getfield 10, 3) := by decide +kernel
theorem dX4_job_50 : decode cX4_job 50 = .ok (.getfield 59, 3) := by decide +kernel
theorem dX4_job_53 : decode cX4_job 53 = .ok (.bipush 6, 2) := by decide +kernel
theorem dX4_job_55 : decode cX4_job 55 = .ok (.iaload, 1) := by decide +kernel
theorem dX4_job_56 : decode cX4_job 56 = .ok (.invokestatic 70, 3) := by decide +kernel
theorem dX4_job_59 : decode cX4_job 59 = .ok (.aload_n 0, 1) := by decide +kernel
theorem dX4_job_60 : decode cX4_job 60 = .ok (.getfield 10, 3) := by decide +kernel
theorem dX4_job_63 : decode cX4_job 63 = .ok (.getfield 59, 3) := by decide +kernel
theorem dX4_job_66 : decode cX4_job 66 = .ok (.iconst 5, 1) := by decide +kernel
theorem dX4_job_67 : decode cX4_job 67 = .ok (.iaload, 1) := by decide +kernel
theorem dX4_job_68 : decode cX4_job 68 = .ok (.if_icmp .le 6, 3) := by decide +kernel
theorem dX4_job_71 : decode cX4_job 71 = .ok (.bipush (-5), 2) := by decide +kernel
theorem dX4_job_73 : decode cX4_job 73 = .ok (.ireturn, 1) := by decide +kernel
theorem dX4_job_74 : decode cX4_job 74 = .ok (.aload_n 0, 1) := by decide +kernel
theorem dX4_job_75 : decode cX4_job 75 = .ok (.getfield 10, 3) := by decide +kernel
theorem dX4_job_78 : decode cX4_job 78 = .ok (.getfield 74, 3) := by decide +kernel
theorem dX4_job_81 : decode cX4_job 81 = .ok (.bipush 12, 2) := by decide +kernel
theorem dX4_job_83 : decode cX4_job 83 = .ok (.if_icmp .lt 6, 3) := by decide +kernel
theorem dX4_job_86 : decode cX4_job 86 = .ok (.bipush (-4), 2) := by decide +kernel
theorem dX4_job_88 : decode cX4_job 88 = .ok (.ireturn, 1) := by decide +kernel
theorem dX4_job_89 : decode cX4_job 89 = .ok (.aload_n 0, 1) := by decide +kernel
theorem dX4_job_90 : decode cX4_job 90 = .ok (.getfield 36, 3) := by decide +kernel
theorem dX4_job_93 : decode cX4_job 93 = .ok (.aload_n 0, 1) := by decide +kernel
theorem dX4_job_94 : decode cX4_job 94 = .ok (.getfield 10, 3) := by decide +kernel
theorem dX4_job_97 : decode cX4_job 97 = .ok (.invokevirtual 66, 3) := by decide +kernel
theorem dX4_job_100 : decode cX4_job 100 = .ok (.aload_n 0, 1) := by decide +kernel
theorem dX4_job_101 : decode cX4_job 101 = .ok (.getfield 10, 3) := by decide +kernel
theorem dX4_job_104 : decode cX4_job 104 = .ok (.iload_n 1, 1) := by decide +kernel
theorem dX4_job_105 : decode cX4_job 105 = .ok (.iload_n 2, 1) := by decide +kernel
theorem dX4_job_106 : decode cX4_job 106 = .ok (.iload_n 3, 1) := by decide +kernel
theorem dX4_job_107 : decode cX4_job 107 = .ok (.iload 4, 2) := by decide +kernel
theorem dX4_job_109 : decode cX4_job 109 = .ok (.invokevirtual 78, 3) := by decide +kernel
theorem dX4_job_112 : decode cX4_job 112 = .ok (.aload_n 0, 1) := by decide +kernel
theorem dX4_job_113 : decode cX4_job 113 = .ok (.getfield 10, 3) := by decide +kernel
theorem dX4_job_116 : decode cX4_job 116 = .ok (.getfield 74, 3) := by decide +kernel
theorem dX4_job_119 : decode cX4_job 119 = .ok (.iconst 1, 1) := by decide +kernel
theorem dX4_job_120 : decode cX4_job 120 = .ok (.isub, 1) := by decide +kernel
theorem dX4_job_121 : decode cX4_job 121 = .ok (.ireturn, 1) := by decide +kernel
set_option maxRecDepth 20000 in
theorem ggX4_read_X2_parse : GoodIn wsX4_read wsX2_parse := goodIn_r _ [12, 13, 14, 15, 16, 17, 18, 19, 20, 11, 21, 22, 23, 24, 25, 26, 27, 28, 29, 30, 31, 32, 33, 34, 35, 36, 37, 38, 39, 40, 41, 42, 43, 44, 45, 46, 47, 48, 49, 50, 51, 52, 53, 54, 55, 98, 99, 100, 101, 102, 103, 104, 105, 106, 107, 108] (by decide +kernel) (by decide +kernel)
set_option maxRecDepth 20000 in
theorem gX4_read_X2_parse : GoodIn wsX4_read (wsV RX4 82 RX2 yX2_parse wsX2_parse) := goodIn_app (goodIn_of _ (by decide +kernel)) ggX4_read_X2_parse
set_option maxRecDepth 20000 in
theorem ggX4_read_X0_mostRacksNeeded : GoodIn wsX4_read wsX0_mostRacksNeeded := goodIn_r _ [59, 50, 51, 60, 61, 62, 63, 64, 27, 65, 106, 107, 108] (by decide +kernel) (by decide +kernel)
set_option maxRecDepth 20000 in
theorem gX4_read_X0_mostRacksNeeded : GoodIn wsX4_read (wsV RX4 62 RX0 yX0_mostRacksNeeded wsX0_mostRacksNeeded) := goodIn_app (goodIn_of _ (by decide +kernel)) ggX4_read_X0_mostRacksNeeded
set_option maxRecDepth 20000 in
theorem ggX4_read_X1_remember : GoodIn wsX4_read wsX1_remember := goodIn_r _ [70, 71, 72, 73, 74, 75, 62, 76, 77, 78, 79, 48, 80, 81, 82, 83, 84, 85, 51, 50, 109, 110, 111, 106, 107, 108] (by decide +kernel) (by decide +kernel)
set_option maxRecDepth 20000 in
theorem gX4_read_X1_remember : GoodIn wsX4_read (wsV RX4 66 RX1 yX1_remember wsX1_remember) := goodIn_app (goodIn_of _ (by decide +kernel)) ggX4_read_X1_remember
set_option maxRecDepth 20000 in
theorem ggX4_read_X0_appendAll : GoodIn wsX4_read wsX0_appendAll := goodIn_r _ [89, 50, 51, 90, 46, 47, 48, 49, 106, 107, 108] (by decide +kernel) (by decide +kernel)
set_option maxRecDepth 20000 in
theorem gX4_read_X0_appendAll : GoodIn wsX4_read (wsV RX4 89 RX0 yX0_appendAll wsX0_appendAll) := goodIn_app (goodIn_of _ (by decide +kernel)) ggX4_read_X0_appendAll
theorem dX4_read_0 : decode cX4_read 0 = .ok (.aload_n 0, 1) := by decide +kernel
theorem dX4_read_1 : decode cX4_read 1 = .ok (.getfield 29, 3) := by decide +kernel
theorem dX4_read_4 : decode cX4_read 4 = .ok (.invokevirtual 82, 3) := by decide +kernel
theorem dX4_read_7 : decode cX4_read 7 = .ok (.bipush (-6), 2) := by decide +kernel
theorem dX4_read_9 : decode cX4_read 9 = .ok (.if_icmp .eq 6, 3) := by decide +kernel
theorem dX4_read_12 : decode cX4_read 12 = .ok (.bipush (-3), 2) := by decide +kernel
theorem dX4_read_14 : decode cX4_read 14 = .ok (.ireturn, 1) := by decide +kernel
theorem dX4_read_15 : decode cX4_read 15 = .ok (.aload_n 0, 1) := by decide +kernel
theorem dX4_read_16 : decode cX4_read 16 = .ok (.getfield 29, 3) := by decide +kernel
theorem dX4_read_19 : decode cX4_read 19 = .ok (.getfield 86, 3) := by decide +kernel
theorem dX4_read_22 : decode cX4_read 22 = .ok (.aload_n 0, 1) := by decide +kernel
theorem dX4_read_23 : decode cX4_read 23 = .ok (.getfield 10, 3) := by decide +kernel
theorem dX4_read_26 : decode cX4_read 26 = .ok (.getfield 59, 3) := by decide +kernel
theorem dX4_read_29 : decode cX4_read 29 = .ok (.bipush 6, 2) := by decide +kernel
theorem dX4_read_31 : decode cX4_read 31 = .ok (.iaload, 1) := by decide +kernel
theorem dX4_read_32 : decode cX4_read 32 = .ok (.invokevirtual 62, 3) := by decide +kernel
theorem dX4_read_35 : decode cX4_read 35 = .ok (.aload_n 0, 1) := by decide +kernel
theorem dX4_read_36 : decode cX4_read 36 = .ok (.getfield 10, 3) := by decide +kernel
theorem dX4_read_39 : decode cX4_read 39 = .ok (.getfield 59, 3) := by decide +kernel
theorem dX4_read_42 : decode cX4_read 42 = .ok (.iconst 5, 1) := by decide +kernel
theorem dX4_read_43 : decode cX4_read 43 = .ok (.iaload, 1) := by decide +kernel
theorem dX4_read_44 : decode cX4_read 44 = .ok (.if_icmp .le 6, 3) := by decide +kernel
theorem dX4_read_47 : decode cX4_read 47 = .ok (.bipush (-5), 2) := by decide +kernel
theorem dX4_read_49 : decode cX4_read 49 = .ok (.ireturn, 1) := by decide +kernel
theorem dX4_read_50 : decode cX4_read 50 = .ok (.aload_n 0, 1) := by decide +kernel
theorem dX4_read_51 : decode cX4_read 51 = .ok (.getfield 10, 3) := by decide +kernel
theorem dX4_read_54 : decode cX4_read 54 = .ok (.getfield 74, 3) := by decide +kernel
theorem dX4_read_57 : decode cX4_read 57 = .ok (.aload_n 0, 1) := by decide +kernel
theorem dX4_read_58 : decode cX4_read 58 = .ok (.getfield 29, 3) := by decide +kernel
theorem dX4_read_61 : decode cX4_read 61 = .ok (.getfield 86, 3) := by decide +kernel
theorem dX4_read_64 : decode cX4_read 64 = .ok (.getfield 74, 3) := by decide +kernel
theorem dX4_read_67 : decode cX4_read 67 = .ok (.iadd, 1) := by decide +kernel
theorem dX4_read_68 : decode cX4_read 68 = .ok (.bipush 12, 2) := by decide +kernel
theorem dX4_read_70 : decode cX4_read 70 = .ok (.if_icmp .le 6, 3) := by decide +kernel
theorem dX4_read_73 : decode cX4_read 73 = .ok (.bipush (-4), 2) := by decide +kernel
theorem dX4_read_75 : decode cX4_read 75 = .ok (.ireturn, 1) := by decide +kernel
theorem dX4_read_76 : decode cX4_read 76 = .ok (.aload_n 0, 1) := by decide +kernel
theorem dX4_read_77 : decode cX4_read 77 = .ok (.getfield 36, 3) := by decide +kernel
theorem dX4_read_80 : decode cX4_read 80 = .ok (.aload_n 0, 1) := by decide +kernel
theorem dX4_read_81 : decode cX4_read 81 = .ok (.getfield 10, 3) := by decide +kernel
theorem dX4_read_84 : decode cX4_read 84 = .ok (.invokevirtual 66, 3) := by decide +kernel
theorem dX4_read_87 : decode cX4_read 87 = .ok (.aload_n 0, 1) := by decide +kernel
theorem dX4_read_88 : decode cX4_read 88 = .ok (.getfield 10, 3) := by decide +kernel
theorem dX4_read_91 : decode cX4_read 91 = .ok (.aload_n 0, 1) := by decide +kernel
theorem dX4_read_92 : decode cX4_read 92 = .ok (.getfield 29, 3) := by decide +kernel
theorem dX4_read_95 : decode cX4_read 95 = .ok (.getfield 86, 3) := by decide +kernel
theorem dX4_read_98 : decode cX4_read 98 = .ok (.invokevirtual 89, 3) := by decide +kernel
theorem dX4_read_101 : decode cX4_read 101 = .ok (.aload_n 0, 1) := by decide +kernel
theorem dX4_read_102 : decode cX4_read 102 = .ok (.getfield 29, 3) := by decide +kernel
theorem dX4_read_105 : decode cX4_read 105 = .ok (.iconst 0, 1) := by decide +kernel
theorem dX4_read_106 : decode cX4_read 106 = .ok (.putfield 92, 3) := by decide +kernel
theorem dX4_read_109 : decode cX4_read 109 = .ok (.aload_n 0, 1) := by decide +kernel
theorem dX4_read_110 : decode cX4_read 110 = .ok (.getfield 10, 3) := by decide +kernel
theorem dX4_read_113 : decode cX4_read 113 = .ok (.getfield 74, 3) := by decide +kernel
theorem dX4_read_116 : decode cX4_read 116 = .ok (.ireturn, 1) := by decide +kernel
set_option maxRecDepth 20000 in
theorem ggX4_drop_X4_isJob : GoodIn wsX4_drop wsX4_isJob := goodIn_r _ [8, 2, 3, 9, 10, 7, 11, 44, 45, 46, 47, 48, 49, 50, 51, 52, 53] (by decide +kernel) (by decide +kernel)
set_option maxRecDepth 20000 in
theorem gX4_drop_X4_isJob : GoodIn wsX4_drop (wsV RX4 95 RX4 yX4_isJob wsX4_isJob) := goodIn_app (goodIn_of _ (by decide +kernel)) ggX4_drop_X4_isJob
set_option maxRecDepth 20000 in
theorem ggX4_drop_X1_remember : GoodIn wsX4_drop wsX1_remember := goodIn_r _ [16, 17, 18, 19, 20, 21, 22, 23, 24, 25, 26, 27, 28, 29, 30, 31, 32, 33, 34, 35, 54, 55, 56, 51, 52, 53] (by decide +kernel) (by decide +kernel)
set_option maxRecDepth 20000 in
theorem gX4_drop_X1_remember : GoodIn wsX4_drop (wsV RX4 66 RX1 yX1_remember wsX1_remember) := goodIn_app (goodIn_of _ (by decide +kernel)) ggX4_drop_X1_remember
set_option maxRecDepth 20000 in
theorem ggX4_drop_X0_remove : GoodIn wsX4_drop wsX0_remove := goodIn_r _ [39, 35, 40, 41, 42, 27, 43, 34, 51, 52, 53] (by decide +kernel) (by decide +kernel)
set_option maxRecDepth 20000 in
theorem gX4_drop_X0_remove : GoodIn wsX4_drop (wsV RX4 99 RX0 yX0_remove wsX0_remove) := goodIn_app (goodIn_of _ (by decide +kernel)) ggX4_drop_X0_remove
theorem dX4_drop_0 : decode cX4_drop 0 = .ok (.aload_n 0, 1) := by decide +kernel
theorem dX4_drop_1 : decode cX4_drop 1 = .ok (.iload_n 1, 1) := by decide +kernel
theorem dX4_drop_2 : decode cX4_drop 2 = .ok (.invokevirtual 95, 3) := by decide +kernel
theorem dX4_drop_5 : decode cX4_drop 5 = .ok (.ifCond .ne 5, 3) := by decide +kernel
theorem dX4_drop_8 : decode cX4_drop 8 = .ok (.iconst (-1), 1) := by decide +kernel
theorem dX4_drop_9 : decode cX4_drop 9 = .ok (.ireturn, 1) := by decide +kernel
theorem dX4_drop_10 : decode cX4_drop 10 = .ok (.aload_n 0, 1) := by decide +kernel
theorem dX4_drop_11 : decode cX4_drop 11 = .ok (.getfield 36, 3) := by decide +kernel
theorem dX4_drop_14 : decode cX4_drop 14 = .ok (.aload_n 0, 1) := by decide +kernel
theorem dX4_drop_15 : decode cX4_drop 15 = .ok (.getfield 10, 3) := by decide +kernel
theorem dX4_drop_18 : decode cX4_drop 18 = .ok (.invokevirtual 66, 3) := by decide +kernel
theorem dX4_drop_21 : decode cX4_drop 21 = .ok (.aload_n 0, 1) := by decide +kernel
theorem dX4_drop_22 : decode cX4_drop 22 = .ok (.getfield 10, 3) := by decide +kernel
theorem dX4_drop_25 : decode cX4_drop 25 = .ok (.iload_n 1, 1) := by decide +kernel
theorem dX4_drop_26 : decode cX4_drop 26 = .ok (.invokevirtual 99, 3) := by decide +kernel
theorem dX4_drop_29 : decode cX4_drop 29 = .ok (.aload_n 0, 1) := by decide +kernel
theorem dX4_drop_30 : decode cX4_drop 30 = .ok (.getfield 10, 3) := by decide +kernel
theorem dX4_drop_33 : decode cX4_drop 33 = .ok (.getfield 74, 3) := by decide +kernel
theorem dX4_drop_36 : decode cX4_drop 36 = .ok (.ireturn, 1) := by decide +kernel
set_option maxRecDepth 20000 in
theorem ggX4_move_X4_isJob : GoodIn wsX4_move wsX4_isJob := goodIn_r _ [7, 2, 8, 9, 10, 6, 11, 101, 102, 103, 104, 105, 106, 107, 108, 109, 110] (by decide +kernel) (by decide +kernel)
set_option maxRecDepth 20000 in
theorem gX4_move_X4_isJob : GoodIn wsX4_move (wsV RX4 95 RX4 yX4_isJob wsX4_isJob) := goodIn_app (goodIn_of _ (by decide +kernel)) ggX4_move_X4_isJob
set_option maxRecDepth 20000 in
theorem ggX4_move_X1_remember : GoodIn wsX4_move wsX1_remember := goodIn_r _ [16, 17, 18, 19, 20, 21, 22, 23, 24, 25, 26, 27, 28, 29, 30, 31, 32, 33, 34, 35, 111, 112, 113, 108, 109, 110] (by decide +kernel) (by decide +kernel)
set_option maxRecDepth 20000 in
theorem gX4_move_X1_remember : GoodIn wsX4_move (wsV RX4 66 RX1 yX1_remember wsX1_remember) := goodIn_app (goodIn_of _ (by decide +kernel)) ggX4_move_X1_remember
set_option maxRecDepth 20000 in
theorem ggX4_move_X0_shift : GoodIn wsX4_move wsX0_shift := goodIn_r _ [39, 34, 108, 109, 110] (by decide +kernel) (by decide +kernel)
set_option maxRecDepth 20000 in
theorem gX4_move_X0_shift : GoodIn wsX4_move (wsV RX4 103 RX0 yX0_shift wsX0_shift) := goodIn_app (goodIn_of _ (by decide +kernel)) ggX4_move_X0_shift
set_option maxRecDepth 20000 in
theorem ggX4_move_X4_lateSumOf : GoodIn wsX4_move wsX4_lateSumOf := goodIn_r _ [43, 44, 45, 46, 47, 48, 49, 50, 51, 52, 53, 54, 55, 56, 57, 58, 59, 60, 61, 62, 63, 64, 65, 66, 67, 68, 69, 70, 71, 72, 73, 74, 75, 76, 77, 78, 79, 80, 81, 82, 83, 84, 85, 86, 6, 87, 88, 89, 90, 91, 92, 93, 94, 22, 95, 96, 97, 98, 99, 100, 101, 102, 103, 104, 105, 106, 107, 108, 109, 110, 114, 115, 116, 117, 118, 119, 120, 121, 122, 123, 124, 125, 126, 127, 128, 129, 130, 131] (by decide +kernel) (by decide +kernel)
set_option maxRecDepth 20000 in
theorem gX4_move_X4_lateSumOf : GoodIn wsX4_move (wsV RX4 107 RX4 yX4_lateSumOf wsX4_lateSumOf) := goodIn_app (goodIn_of _ (by decide +kernel)) ggX4_move_X4_lateSumOf
theorem dX4_move_0 : decode cX4_move 0 = .ok (.aload_n 0, 1) := by decide +kernel
theorem dX4_move_1 : decode cX4_move 1 = .ok (.iload_n 1, 1) := by decide +kernel
theorem dX4_move_2 : decode cX4_move 2 = .ok (.invokevirtual 95, 3) := by decide +kernel
theorem dX4_move_5 : decode cX4_move 5 = .ok (.ifCond .eq 11, 3) := by decide +kernel
theorem dX4_move_8 : decode cX4_move 8 = .ok (.aload_n 0, 1) := by decide +kernel
theorem dX4_move_9 : decode cX4_move 9 = .ok (.iload_n 2, 1) := by decide +kernel
theorem dX4_move_10 : decode cX4_move 10 = .ok (.invokevirtual 95, 3) := by decide +kernel
theorem dX4_move_13 : decode cX4_move 13 = .ok (.ifCond .ne 5, 3) := by decide +kernel
theorem dX4_move_16 : decode cX4_move 16 = .ok (.iconst (-1), 1) := by decide +kernel
theorem dX4_move_17 : decode cX4_move 17 = .ok (.ireturn, 1) := by decide +kernel
theorem dX4_move_18 : decode cX4_move 18 = .ok (.aload_n 0, 1) := by decide +kernel
theorem dX4_move_19 : decode cX4_move 19 = .ok (.getfield 36, 3) := by decide +kernel
theorem dX4_move_22 : decode cX4_move 22 = .ok (.aload_n 0, 1) := by decide +kernel
theorem dX4_move_23 : decode cX4_move 23 = .ok (.getfield 10, 3) := by decide +kernel
theorem dX4_move_26 : decode cX4_move 26 = .ok (.invokevirtual 66, 3) := by decide +kernel
theorem dX4_move_29 : decode cX4_move 29 = .ok (.aload_n 0, 1) := by decide +kernel
theorem dX4_move_30 : decode cX4_move 30 = .ok (.getfield 10, 3) := by decide +kernel
theorem dX4_move_33 : decode cX4_move 33 = .ok (.iload_n 1, 1) := by decide +kernel
theorem dX4_move_34 : decode cX4_move 34 = .ok (.iload_n 2, 1) := by decide +kernel
theorem dX4_move_35 : decode cX4_move 35 = .ok (.invokevirtual 103, 3) := by decide +kernel
theorem dX4_move_38 : decode cX4_move 38 = .ok (.aload_n 0, 1) := by decide +kernel
theorem dX4_move_39 : decode cX4_move 39 = .ok (.aload_n 0, 1) := by decide +kernel
theorem dX4_move_40 : decode cX4_move 40 = .ok (.getfield 10, 3) := by decide +kernel
theorem dX4_move_43 : decode cX4_move 43 = .ok (.invokevirtual 107, 3) := by decide +kernel
theorem dX4_move_46 : decode cX4_move 46 = .ok (.ireturn, 1) := by decide +kernel
set_option maxRecDepth 20000 in
theorem ggX4_due_X4_isJob : GoodIn wsX4_due wsX4_isJob := goodIn_r _ [11, 2, 12, 13, 14, 10, 15, 94, 95, 96, 97, 98, 99, 100, 101, 102, 103] (by decide +kernel) (by decide +kernel)
set_option maxRecDepth 20000 in
theorem gX4_due_X4_isJob : GoodIn wsX4_due (wsV RX4 95 RX4 yX4_isJob wsX4_isJob) := goodIn_app (goodIn_of _ (by decide +kernel)) ggX4_due_X4_isJob
set_option maxRecDepth 20000 in
theorem ggX4_due_X4_within : GoodIn wsX4_due wsX4_within := goodIn_r _ [15] (by decide +kernel) (by decide +kernel)
set_option maxRecDepth 20000 in
theorem gX4_due_X4_within : GoodIn wsX4_due (va_wsS RX4 48 yX4_within wsX4_within) := goodIn_app (goodIn_of _ (by decide +kernel)) ggX4_due_X4_within
set_option maxRecDepth 20000 in
theorem ggX4_due_X1_remember : GoodIn wsX4_due wsX1_remember := goodIn_r _ [20, 21, 22, 23, 24, 25, 26, 27, 28, 29, 30, 31, 32, 33, 34, 35, 36, 37, 38, 39, 122, 123, 124, 101, 102, 103] (by decide +kernel) (by decide +kernel)
set_option maxRecDepth 20000 in
theorem gX4_due_X1_remember : GoodIn wsX4_due (wsV RX4 66 RX1 yX1_remember wsX1_remember) := goodIn_app (goodIn_of _ (by decide +kernel)) ggX4_due_X1_remember
set_option maxRecDepth 20000 in
theorem ggX4_due_X3_print : GoodIn wsX4_due wsX3_print := goodIn_r _ [44, 45, 46, 47, 48, 49, 43, 50, 51, 52, 53, 54, 55, 56, 57, 58, 59, 60, 61, 62, 63, 64, 65, 66, 67, 68, 69, 70, 71, 72, 73, 74, 75, 76, 77, 78, 79, 10, 80, 81, 82, 83, 84, 85, 86, 87, 26, 88, 89, 90, 91, 92, 93, 101, 102, 103, 104, 105, 106, 107, 108, 109, 110, 111, 112, 113, 114, 115, 116, 117, 118, 119, 120, 121] (by decide +kernel) (by decide +kernel)
set_option maxRecDepth 20000 in
theorem gX4_due_X3_print : GoodIn wsX4_due (wsV RX4 115 RX3 yX3_print wsX3_print) := goodIn_app (goodIn_of _ (by decide +kernel)) ggX4_due_X3_print
theorem dX4_due_0 : decode cX4_due 0 = .ok (.aload_n 0, 1) := by decide +kernel
theorem dX4_due_1 : decode cX4_due 1 = .ok (.iload_n 1, 1) := by decide +kernel
theorem dX4_due_2 : decode cX4_due 2 = .ok (.invokevirtual 95, 3) := by decide +kernel
theorem dX4_due_5 : decode cX4_due 5 = .ok (.ifCond .ne 5, 3) := by decide +kernel
theorem dX4_due_8 : decode cX4_due 8 = .ok (.iconst (-1), 1) := by decide +kernel
theorem dX4_due_9 : decode cX4_due 9 = .ok (.ireturn, 1) := by decide +kernel
theorem dX4_due_10 : decode cX4_due 10 = .ok (.iload_n 2, 1) := by decide +kernel
theorem dX4_due_11 : decode cX4_due 11 = .ok (.iconst 0, 1) := by decide +kernel
theorem dX4_due_12 : decode cX4_due 12 = .ok (.sipush 3000, 3) := by decide +kernel
theorem dX4_due_15 : decode cX4_due 15 = .ok (.invokestatic 48, 3) := by decide +kernel
theorem dX4_due_18 : decode cX4_due 18 = .ok (.ifCond .ne 6, 3) := by decide +kernel
theorem dX4_due_21 : decode cX4_due 21 = .ok (.bipush (-2), 2) := by decide +kernel
theorem dX4_due_23 : decode cX4_due 23 = .ok (.ireturn, 1) := by decide +kernel
theorem dX4_due_24 : decode cX4_due 24 = .ok (.aload_n 0, 1) := by decide +kernel
theorem dX4_due_25 : decode cX4_due 25 = .ok (.getfield 36, 3) := by decide +kernel
theorem dX4_due_28 : decode cX4_due 28 = .ok (.aload_n 0, 1) := by decide +kernel
theorem dX4_due_29 : decode cX4_due 29 = .ok (.getfield 10, 3) := by decide +kernel
theorem dX4_due_32 : decode cX4_due 32 = .ok (.invokevirtual 66, 3) := by decide +kernel
theorem dX4_due_35 : decode cX4_due 35 = .ok (.aload_n 0, 1) := by decide +kernel
theorem dX4_due_36 : decode cX4_due 36 = .ok (.getfield 10, 3) := by decide +kernel
theorem dX4_due_39 : decode cX4_due 39 = .ok (.getfield 111, 3) := by decide +kernel
theorem dX4_due_42 : decode cX4_due 42 = .ok (.iconst 3, 1) := by decide +kernel
theorem dX4_due_43 : decode cX4_due 43 = .ok (.aaload, 1) := by decide +kernel
theorem dX4_due_44 : decode cX4_due 44 = .ok (.iload_n 1, 1) := by decide +kernel
theorem dX4_due_45 : decode cX4_due 45 = .ok (.iload_n 2, 1) := by decide +kernel
theorem dX4_due_46 : decode cX4_due 46 = .ok (.iastore, 1) := by decide +kernel
theorem dX4_due_47 : decode cX4_due 47 = .ok (.aload_n 0, 1) := by decide +kernel
theorem dX4_due_48 : decode cX4_due 48 = .ok (.getfield 22, 3) := by decide +kernel
theorem dX4_due_51 : decode cX4_due 51 = .ok (.aload_n 0, 1) := by decide +kernel
theorem dX4_due_52 : decode cX4_due 52 = .ok (.getfield 10, 3) := by decide +kernel
theorem dX4_due_55 : decode cX4_due 55 = .ok (.aload_n 0, 1) := by decide +kernel
theorem dX4_due_56 : decode cX4_due 56 = .ok (.getfield 10, 3) := by decide +kernel
theorem dX4_due_59 : decode cX4_due 59 = .ok (.getfield 59, 3) := by decide +kernel
theorem dX4_due_62 : decode cX4_due 62 = .ok (.iconst 5, 1) := by decide +kernel
theorem dX4_due_63 : decode cX4_due 63 = .ok (.iaload, 1) := by decide +kernel
theorem dX4_due_64 : decode cX4_due 64 = .ok (.invokevirtual 115, 3) := by decide +kernel
theorem dX4_due_67 : decode cX4_due 67 = .ok (.aload_n 0, 1) := by decide +kernel
theorem dX4_due_68 : decode cX4_due 68 = .ok (.getfield 22, 3) := by decide +kernel
theorem dX4_due_71 : decode cX4_due 71 = .ok (.getfield 119, 3) := by decide +kernel
theorem dX4_due_74 : decode cX4_due 74 = .ok (.iload_n 1, 1) := by decide +kernel
theorem dX4_due_75 : decode cX4_due 75 = .ok (.iaload, 1) := by decide +kernel
theorem dX4_due_76 : decode cX4_due 76 = .ok (.ireturn, 1) := by decide +kernel
set_option maxRecDepth 20000 in
theorem ggX4_order_X4_within : GoodIn wsX4_order wsX4_within := goodIn_r _ [8] (by decide +kernel) (by decide +kernel)
set_option maxRecDepth 20000 in
theorem gX4_order_X4_within : GoodIn wsX4_order (va_wsS RX4 48 yX4_within wsX4_within) := goodIn_app (goodIn_of _ (by decide +kernel)) ggX4_order_X4_within
set_option maxRecDepth 20000 in
theorem ggX4_order_X1_remember : GoodIn wsX4_order wsX1_remember := goodIn_r _ [13, 14, 15, 16, 17, 18, 19, 20, 21, 22, 23, 24, 25, 26, 27, 28, 29, 30, 31, 32, 50, 51, 52, 53, 54, 55] (by decide +kernel) (by decide +kernel)
set_option maxRecDepth 20000 in
theorem gX4_order_X1_remember : GoodIn wsX4_order (wsV RX4 66 RX1 yX1_remember wsX1_remember) := goodIn_app (goodIn_of _ (by decide +kernel)) ggX4_order_X1_remember
set_option maxRecDepth 20000 in
theorem ggX4_order_X0_arrange : GoodIn wsX4_order wsX0_arrange := goodIn_r _ [36, 32, 31, 37, 22, 23, 24, 25, 26, 27, 28, 29, 30, 38, 39, 40, 41, 53, 54, 55] (by decide +kernel) (by decide +kernel)
set_option maxRecDepth 20000 in
theorem gX4_order_X0_arrange : GoodIn wsX4_order (wsV RX4 125 RX0 yX0_arrange wsX0_arrange) := goodIn_app (goodIn_of _ (by decide +kernel)) ggX4_order_X0_arrange
set_option maxRecDepth 20000 in
theorem ggX4_order_X0_copyFrom : GoodIn wsX4_order wsX0_copyFrom := goodIn_r _ [25, 26, 27, 28, 29, 30, 31, 32, 53, 54, 55] (by decide +kernel) (by decide +kernel)
set_option maxRecDepth 20000 in
theorem gX4_order_X0_copyFrom : GoodIn wsX4_order (wsV RX4 129 RX0 yX0_copyFrom wsX0_copyFrom) := goodIn_app (goodIn_of _ (by decide +kernel)) ggX4_order_X0_copyFrom
theorem dX4_order_0 : decode cX4_order 0 = .ok (.iload_n 1, 1) := by decide +kernel
theorem dX4_order_1 : decode cX4_order 1 = .ok (.iconst 0, 1) := by decide +kernel
theorem dX4_order_2 : decode cX4_order 2 = .ok (.iconst 3, 1) := by decide +kernel
theorem dX4_order_3 : decode cX4_order 3 = .ok (.invokestatic 48, 3) := by decide +kernel
theorem dX4_order_6 : decode cX4_order 6 = .ok (.ifCond .ne 6, 3) := by decide +kernel
theorem dX4_order_9 : decode cX4_order 9 = .ok (.bipush (-2), 2) := by decide +kernel
theorem dX4_order_11 : decode cX4_order 11 = .ok (.ireturn, 1) := by decide +kernel
theorem dX4_order_12 : decode cX4_order 12 = .ok (.aload_n 0, 1) := by decide +kernel
theorem dX4_order_13 : decode cX4_order 13 = .ok (.getfield 36, 3) := by decide +kernel
theorem dX4_order_16 : decode cX4_order 16 = .ok (.aload_n 0, 1) := by decide +kernel
theorem dX4_order_17 : decode cX4_order 17 = .ok (.getfield 10, 3) := by decide +kernel
theorem dX4_order_20 : decode cX4_order 20 = .ok (.invokevirtual 66, 3) := by decide +kernel
theorem dX4_order_23 : decode cX4_order 23 = .ok (.aload_n 0, 1) := by decide +kernel
theorem dX4_order_24 : decode cX4_order 24 = .ok (.getfield 16, 3) := by decide +kernel
theorem dX4_order_27 : decode cX4_order 27 = .ok (.aload_n 0, 1) := by decide +kernel
theorem dX4_order_28 : decode cX4_order 28 = .ok (.getfield 10, 3) := by decide +kernel
theorem dX4_order_31 : decode cX4_order 31 = .ok (.getstatic 122, 3) := by decide +kernel
theorem dX4_order_34 : decode cX4_order 34 = .ok (.iload_n 1, 1) := by decide +kernel
theorem dX4_order_35 : decode cX4_order 35 = .ok (.iaload, 1) := by decide +kernel
theorem dX4_order_36 : decode cX4_order 36 = .ok (.invokevirtual 125, 3) := by decide +kernel
theorem dX4_order_39 : decode cX4_order 39 = .ok (.istore_n 2, 1) := by decide +kernel
theorem dX4_order_40 : decode cX4_order 40 = .ok (.aload_n 0, 1) := by decide +kernel
theorem dX4_order_41 : decode cX4_order 41 = .ok (.getfield 10, 3) := by decide +kernel
theorem dX4_order_44 : decode cX4_order 44 = .ok (.aload_n 0, 1) := by decide +kernel
theorem dX4_order_45 : decode cX4_order 45 = .ok (.getfield 16, 3) := by decide +kernel
theorem dX4_order_48 : decode cX4_order 48 = .ok (.invokevirtual 129, 3) := by decide +kernel
theorem dX4_order_51 : decode cX4_order 51 = .ok (.iload_n 2, 1) := by decide +kernel
theorem dX4_order_52 : decode cX4_order 52 = .ok (.ireturn, 1) := by decide +kernel
set_option maxRecDepth 20000 in
theorem ggX4_jobOf_X4_isJob : GoodIn wsX4_jobOf wsX4_isJob := goodIn_r _ [17, 1, 18, 19, 20, 16, 21, 77, 78, 79, 80, 81, 82, 83, 84, 85, 86] (by decide +kernel) (by decide +kernel)
set_option maxRecDepth 20000 in
theorem gX4_jobOf_X4_isJob : GoodIn wsX4_jobOf (wsV RX4 95 RX4 yX4_isJob wsX4_isJob) := goodIn_app (goodIn_of _ (by decide +kernel)) ggX4_jobOf_X4_isJob
set_option maxRecDepth 20000 in
theorem ggX4_jobOf_X4_within : GoodIn wsX4_jobOf wsX4_within := goodIn_r _ [21] (by decide +kernel) (by decide +kernel)
set_option maxRecDepth 20000 in
theorem gX4_jobOf_X4_within : GoodIn wsX4_jobOf (va_wsS RX4 48 yX4_within wsX4_within) := goodIn_app (goodIn_of _ (by decide +kernel)) ggX4_jobOf_X4_within
set_option maxRecDepth 20000 in
theorem ggX4_jobOf_X3_print : GoodIn wsX4_jobOf wsX3_print := goodIn_r _ [26, 27, 28, 29, 30, 31, 25, 32, 33, 34, 35, 36, 37, 38, 39, 40, 41, 42, 43, 44, 45, 46, 47, 48, 49, 50, 51, 52, 53, 54, 55, 56, 57, 58, 59, 60, 61, 16, 62, 63, 64, 65, 66, 67, 68, 69, 70, 71, 72, 73, 74, 75, 76, 84, 85, 86, 87, 88, 89, 90, 91, 92, 93, 94, 95, 96, 97, 98, 99, 100, 101, 102, 103, 104] (by decide +kernel) (by decide +kernel)
set_option maxRecDepth 20000 in
theorem gX4_jobOf_X3_print : GoodIn wsX4_jobOf (wsV RX4 115 RX3 yX3_print wsX3_print) := goodIn_app (goodIn_of _ (by decide +kernel)) ggX4_jobOf_X3_print
theorem dX4_jobOf_0 : decode cX4_jobOf 0 = .ok (.aload_n 0, 1) := by decide +kernel
theorem dX4_jobOf_1 : decode cX4_jobOf 1 = .ok (.iload_n 1, 1) := by decide +kernel
theorem dX4_jobOf_2 : decode cX4_jobOf 2 = .ok (.invokevirtual 95, 3) := by decide +kernel
theorem dX4_jobOf_5 : decode cX4_jobOf 5 = .ok (.ifCond .ne 5, 3) := by decide +kernel
theorem dX4_jobOf_8 : decode cX4_jobOf 8 = .ok (.iconst (-1), 1) := by decide +kernel
theorem dX4_jobOf_9 : decode cX4_jobOf 9 = .ok (.ireturn, 1) := by decide +kernel
theorem dX4_jobOf_10 : decode cX4_jobOf 10 = .ok (.iload_n 2, 1) := by decide +kernel
theorem dX4_jobOf_11 : decode cX4_jobOf 11 = .ok (.iconst 0, 1) := by decide +kernel
theorem dX4_jobOf_12 : decode cX4_jobOf 12 = .ok (.bipush 11, 2) := by decide +kernel
theorem dX4_jobOf_14 : decode cX4_jobOf 14 = .ok (.invokestatic 48, 3) := by decide +kernel
theorem dX4_jobOf_17 : decode cX4_jobOf 17 = .ok (.ifCond .ne 6, 3) := by decide +kernel
theorem dX4_jobOf_20 : decode cX4_jobOf 20 = .ok (.bipush (-2), 2) := by decide +kernel
theorem dX4_jobOf_22 : decode cX4_jobOf 22 = .ok (.ireturn, 1) := by decide +kernel
theorem dX4_jobOf_23 : decode cX4_jobOf 23 = .ok (.iload_n 2, 1) := by decide +kernel
theorem dX4_jobOf_24 : decode cX4_jobOf 24 = .ok (.iconst 4, 1) := by decide +kernel
theorem dX4_jobOf_25 : decode cX4_jobOf 25 = .ok (.if_icmp .ge 15, 3) := by decide +kernel
theorem dX4_jobOf_28 : decode cX4_jobOf 28 = .ok (.aload_n 0, 1) := by decide +kernel
theorem dX4_jobOf_29 : decode cX4_jobOf 29 = .ok (.getfield 10, 3) := by decide +kernel
theorem dX4_jobOf_32 : decode cX4_jobOf 32 = .ok (.getfield 111, 3) := by decide +kernel
theorem dX4_jobOf_35 : decode cX4_jobOf 35 = .ok (.iload_n 2, 1) := by decide +kernel
theorem dX4_jobOf_36 : decode cX4_jobOf 36 = .ok (.aaload, 1) := by decide +kernel
theorem dX4_jobOf_37 : decode cX4_jobOf 37 = .ok (.iload_n 1, 1) := by decide +kernel
theorem dX4_jobOf_38 : decode cX4_jobOf 38 = .ok (.iaload, 1) := by decide +kernel
theorem dX4_jobOf_39 : decode cX4_jobOf 39 = .ok (.ireturn, 1) := by decide +kernel
theorem dX4_jobOf_40 : decode cX4_jobOf 40 = .ok (.aload_n 0, 1) := by decide +kernel
theorem dX4_jobOf_41 : decode cX4_jobOf 41 = .ok (.getfield 22, 3) := by decide +kernel
theorem dX4_jobOf_44 : decode cX4_jobOf 44 = .ok (.aload_n 0, 1) := by decide +kernel
theorem dX4_jobOf_45 : decode cX4_jobOf 45 = .ok (.getfield 10, 3) := by decide +kernel
theorem dX4_jobOf_48 : decode cX4_jobOf 48 = .ok (.aload_n 0, 1) := by decide +kernel
theorem dX4_jobOf_49 : decode cX4_jobOf 49 = .ok (.getfield 10, 3) := by decide +kernel
theorem dX4_jobOf_52 : decode cX4_jobOf 52 = .ok (.getfield 59, 3) := by decide +kernel
theorem dX4_jobOf_55 : decode cX4_jobOf 55 = .ok (.iconst 5, 1) := by decide +kernel
theorem dX4_jobOf_56 : decode cX4_jobOf 56 = .ok (.iaload, 1) := by decide +kernel
theorem dX4_jobOf_57 : decode cX4_jobOf 57 = .ok (.invokevirtual 115, 3) := by decide +kernel
theorem dX4_jobOf_60 : decode cX4_jobOf 60 = .ok (.iload_n 2, 1) := by decide +kernel
theorem dX4_jobOf_61 : decode cX4_jobOf 61 = .ok (.tableswitch 113 4 10 #[43, 53, 63, 73, 83, 93, 103], 43) := by decide +kernel
theorem dX4_jobOf_104 : decode cX4_jobOf 104 = .ok (.aload_n 0, 1) := by decide +kernel
theorem dX4_jobOf_105 : decode cX4_jobOf 105 = .ok (.getfield 22, 3) := by decide +kernel
theorem dX4_jobOf_108 : decode cX4_jobOf 108 = .ok (.getfield 132, 3) := by decide +kernel
theorem dX4_jobOf_111 : decode cX4_jobOf 111 = .ok (.iload_n 1, 1) := by decide +kernel
theorem dX4_jobOf_112 : decode cX4_jobOf 112 = .ok (.iaload, 1) := by decide +kernel
theorem dX4_jobOf_113 : decode cX4_jobOf 113 = .ok (.ireturn, 1) := by decide +kernel
theorem dX4_jobOf_114 : decode cX4_jobOf 114 = .ok (.aload_n 0, 1) := by decide +kernel
theorem dX4_jobOf_115 : decode cX4_jobOf 115 = .ok (.getfield 22, 3) := by decide +kernel
theorem dX4_jobOf_118 : decode cX4_jobOf 118 = .ok (.getfield 135, 3) := by decide +kernel
theorem dX4_jobOf_121 : decode cX4_jobOf 121 = .ok (.iload_n 1, 1) := by decide +kernel
theorem dX4_jobOf_122 : decode cX4_jobOf 122 = .ok (.iaload, 1) := by decide +kernel
theorem dX4_jobOf_123 : decode cX4_jobOf 123 = .ok (.ireturn, 1) := by decide +kernel
theorem dX4_jobOf_124 : decode cX4_jobOf 124 = .ok (.aload_n 0, 1) := by decide +kernel
theorem dX4_jobOf_125 : decode cX4_jobOf 125 = .ok (.getfield 22, 3) := by decide +kernel
theorem dX4_jobOf_128 : decode cX4_jobOf 128 = .ok (.getfield 138, 3) := by decide +kernel
theorem dX4_jobOf_131 : decode cX4_jobOf 131 = .ok (.iload_n 1, 1) := by decide +kernel
theorem dX4_jobOf_132 : decode cX4_jobOf 132 = .ok (.iaload, 1) := by decide +kernel
theorem dX4_jobOf_133 : decode cX4_jobOf 133 = .ok (.ireturn, 1) := by decide +kernel
theorem dX4_jobOf_134 : decode cX4_jobOf 134 = .ok (.aload_n 0, 1) := by decide +kernel
theorem dX4_jobOf_135 : decode cX4_jobOf 135 = .ok (.getfield 22, 3) := by decide +kernel
theorem dX4_jobOf_138 : decode cX4_jobOf 138 = .ok (.getfield 141, 3) := by decide +kernel
theorem dX4_jobOf_141 : decode cX4_jobOf 141 = .ok (.iload_n 1, 1) := by decide +kernel
theorem dX4_jobOf_142 : decode cX4_jobOf 142 = .ok (.iaload, 1) := by decide +kernel
theorem dX4_jobOf_143 : decode cX4_jobOf 143 = .ok (.ireturn, 1) := by decide +kernel
theorem dX4_jobOf_144 : decode cX4_jobOf 144 = .ok (.aload_n 0, 1) := by decide +kernel
theorem dX4_jobOf_145 : decode cX4_jobOf 145 = .ok (.getfield 22, 3) := by decide +kernel
theorem dX4_jobOf_148 : decode cX4_jobOf 148 = .ok (.getfield 119, 3) := by decide +kernel
theorem dX4_jobOf_151 : decode cX4_jobOf 151 = .ok (.iload_n 1, 1) := by decide +kernel
theorem dX4_jobOf_152 : decode cX4_jobOf 152 = .ok (.iaload, 1) := by decide +kernel
theorem dX4_jobOf_153 : decode cX4_jobOf 153 = .ok (.ireturn, 1) := by decide +kernel
theorem dX4_jobOf_154 : decode cX4_jobOf 154 = .ok (.aload_n 0, 1) := by decide +kernel
theorem dX4_jobOf_155 : decode cX4_jobOf 155 = .ok (.getfield 22, 3) := by decide +kernel
theorem dX4_jobOf_158 : decode cX4_jobOf 158 = .ok (.getfield 144, 3) := by decide +kernel
theorem dX4_jobOf_161 : decode cX4_jobOf 161 = .ok (.iload_n 1, 1) := by decide +kernel
theorem dX4_jobOf_162 : decode cX4_jobOf 162 = .ok (.iaload, 1) := by decide +kernel
theorem dX4_jobOf_163 : decode cX4_jobOf 163 = .ok (.ireturn, 1) := by decide +kernel
theorem dX4_jobOf_164 : decode cX4_jobOf 164 = .ok (.aload_n 0, 1) := by decide +kernel
theorem dX4_jobOf_165 : decode cX4_jobOf 165 = .ok (.getfield 22, 3) := by decide +kernel
theorem dX4_jobOf_168 : decode cX4_jobOf 168 = .ok (.getfield 147, 3) := by decide +kernel
theorem dX4_jobOf_171 : decode cX4_jobOf 171 = .ok (.iload_n 1, 1) := by decide +kernel
theorem dX4_jobOf_172 : decode cX4_jobOf 172 = .ok (.iaload, 1) := by decide +kernel
theorem dX4_jobOf_173 : decode cX4_jobOf 173 = .ok (.ireturn, 1) := by decide +kernel
theorem dX4_jobOf_174 : decode cX4_jobOf 174 = .ok (.aload_n 0, 1) := by decide +kernel
theorem dX4_jobOf_175 : decode cX4_jobOf 175 = .ok (.getfield 22, 3) := by decide +kernel
theorem dX4_jobOf_178 : decode cX4_jobOf 178 = .ok (.getfield 150, 3) := by decide +kernel
theorem dX4_jobOf_181 : decode cX4_jobOf 181 = .ok (.iload_n 1, 1) := by decide +kernel
theorem dX4_jobOf_182 : decode cX4_jobOf 182 = .ok (.iaload, 1) := by decide +kernel
theorem dX4_jobOf_183 : decode cX4_jobOf 183 = .ok (.ireturn, 1) := by decide +kernel
set_option maxRecDepth 20000 in
theorem ggX4_count_X4_within : GoodIn wsX4_count wsX4_within := goodIn_r _ [21] (by decide +kernel) (by decide +kernel)
set_option maxRecDepth 20000 in
theorem gX4_count_X4_within : GoodIn wsX4_count (va_wsS RX4 48 yX4_within wsX4_within) := goodIn_app (goodIn_of _ (by decide +kernel)) ggX4_count_X4_within
set_option maxRecDepth 20000 in
theorem ggX4_count_X3_print : GoodIn wsX4_count wsX3_print := goodIn_r _ [26, 27, 28, 29, 30, 31, 25, 32, 33, 34, 35, 36, 37, 38, 39, 40, 41, 42, 43, 44, 45, 46, 47, 48, 49, 50, 51, 52, 53, 54, 55, 56, 57, 58, 59, 60, 61, 20, 62, 63, 64, 65, 66, 67, 68, 69, 70, 71, 72, 73, 74, 75, 76, 95, 96, 97, 98, 99, 100, 101, 102, 103, 104, 105, 106, 107, 108, 109, 110, 111, 112, 113, 114, 115] (by decide +kernel) (by decide +kernel)
set_option maxRecDepth 20000 in
theorem gX4_count_X3_print : GoodIn wsX4_count (wsV RX4 115 RX3 yX3_print wsX3_print) := goodIn_app (goodIn_of _ (by decide +kernel)) ggX4_count_X3_print
set_option maxRecDepth 20000 in
theorem ggX4_count_X0_hundredsOfAll : GoodIn wsX4_count wsX0_hundredsOfAll := goodIn_r _ [81, 82, 83, 95, 96, 97] (by decide +kernel) (by decide +kernel)
set_option maxRecDepth 20000 in
theorem gX4_count_X0_hundredsOfAll : GoodIn wsX4_count (wsV RX4 153 RX0 yX0_hundredsOfAll wsX0_hundredsOfAll) := goodIn_app (goodIn_of _ (by decide +kernel)) ggX4_count_X0_hundredsOfAll
set_option maxRecDepth 20000 in
theorem ggX4_count_X3_lastOf : GoodIn wsX4_count wsX3_lastOf := goodIn_r _ [87, 28, 98, 99, 100, 101, 102, 103, 104, 105, 106, 107, 108, 109, 110, 111, 112, 113, 114, 115] (by decide +kernel) (by decide +kernel)
set_option maxRecDepth 20000 in
theorem gX4_count_X3_lastOf : GoodIn wsX4_count (wsV RX4 156 RX3 yX3_lastOf wsX3_lastOf) := goodIn_app (goodIn_of _ (by decide +kernel)) ggX4_count_X3_lastOf
theorem dX4_count_0 : decode cX4_count 0 = .ok (.iload_n 1, 1) := by decide +kernel
theorem dX4_count_1 : decode cX4_count 1 = .ok (.iconst 0, 1) := by decide +kernel
theorem dX4_count_2 : decode cX4_count 2 = .ok (.bipush 19, 2) := by decide +kernel
theorem dX4_count_4 : decode cX4_count 4 = .ok (.invokestatic 48, 3) := by decide +kernel
theorem dX4_count_7 : decode cX4_count 7 = .ok (.ifCond .ne 6, 3) := by decide +kernel
theorem dX4_count_10 : decode cX4_count 10 = .ok (.bipush (-2), 2) := by decide +kernel
theorem dX4_count_12 : decode cX4_count 12 = .ok (.ireturn, 1) := by decide +kernel
theorem dX4_count_13 : decode cX4_count 13 = .ok (.iload_n 1, 1) := by decide +kernel
theorem dX4_count_14 : decode cX4_count 14 = .ok (.bipush 7, 2) := by decide +kernel
theorem dX4_count_16 : decode cX4_count 16 = .ok (.if_icmp .ge 13, 3) := by decide +kernel
theorem dX4_count_19 : decode cX4_count 19 = .ok (.aload_n 0, 1) := by decide +kernel
theorem dX4_count_20 : decode cX4_count 20 = .ok (.getfield 10, 3) := by decide +kernel
theorem dX4_count_23 : decode cX4_count 23 = .ok (.getfield 59, 3) := by decide +kernel
theorem dX4_count_26 : decode cX4_count 26 = .ok (.iload_n 1, 1) := by decide +kernel
theorem dX4_count_27 : decode cX4_count 27 = .ok (.iaload, 1) := by decide +kernel
theorem dX4_count_28 : decode cX4_count 28 = .ok (.ireturn, 1) := by decide +kernel
theorem dX4_count_29 : decode cX4_count 29 = .ok (.aload_n 0, 1) := by decide +kernel
theorem dX4_count_30 : decode cX4_count 30 = .ok (.getfield 22, 3) := by decide +kernel
theorem dX4_count_33 : decode cX4_count 33 = .ok (.aload_n 0, 1) := by decide +kernel
theorem dX4_count_34 : decode cX4_count 34 = .ok (.getfield 10, 3) := by decide +kernel
theorem dX4_count_37 : decode cX4_count 37 = .ok (.aload_n 0, 1) := by decide +kernel
theorem dX4_count_38 : decode cX4_count 38 = .ok (.getfield 10, 3) := by decide +kernel
theorem dX4_count_41 : decode cX4_count 41 = .ok (.getfield 59, 3) := by decide +kernel
theorem dX4_count_44 : decode cX4_count 44 = .ok (.iconst 5, 1) := by decide +kernel
theorem dX4_count_45 : decode cX4_count 45 = .ok (.iaload, 1) := by decide +kernel
theorem dX4_count_46 : decode cX4_count 46 = .ok (.invokevirtual 115, 3) := by decide +kernel
theorem dX4_count_49 : decode cX4_count 49 = .ok (.iload_n 1, 1) := by decide +kernel
theorem dX4_count_50 : decode cX4_count 50 = .ok (.tableswitch 172 7 18 #[62, 70, 78, 93, 108, 116, 124, 132, 140, 148, 156, 164], 62) := by decide +kernel
theorem dX4_count_112 : decode cX4_count 112 = .ok (.aload_n 0, 1) := by decide +kernel
theorem dX4_count_113 : decode cX4_count 113 = .ok (.getfield 10, 3) := by decide +kernel
theorem dX4_count_116 : decode cX4_count 116 = .ok (.getfield 74, 3) := by decide +kernel
theorem dX4_count_119 : decode cX4_count 119 = .ok (.ireturn, 1) := by decide +kernel
theorem dX4_count_120 : decode cX4_count 120 = .ok (.aload_n 0, 1) := by decide +kernel
theorem dX4_count_121 : decode cX4_count 121 = .ok (.getfield 10, 3) := by decide +kernel
theorem dX4_count_124 : decode cX4_count 124 = .ok (.invokevirtual 153, 3) := by decide +kernel
theorem dX4_count_127 : decode cX4_count 127 = .ok (.ireturn, 1) := by decide +kernel
theorem dX4_count_128 : decode cX4_count 128 = .ok (.aload_n 0, 1) := by decide +kernel
theorem dX4_count_129 : decode cX4_count 129 = .ok (.getfield 22, 3) := by decide +kernel
theorem dX4_count_132 : decode cX4_count 132 = .ok (.aload_n 0, 1) := by decide +kernel
theorem dX4_count_133 : decode cX4_count 133 = .ok (.getfield 22, 3) := by decide +kernel
theorem dX4_count_136 : decode cX4_count 136 = .ok (.getfield 138, 3) := by decide +kernel
theorem dX4_count_139 : decode cX4_count 139 = .ok (.invokevirtual 156, 3) := by decide +kernel
theorem dX4_count_142 : decode cX4_count 142 = .ok (.ireturn, 1) := by decide +kernel
theorem dX4_count_143 : decode cX4_count 143 = .ok (.aload_n 0, 1) := by decide +kernel
theorem dX4_count_144 : decode cX4_count 144 = .ok (.getfield 22, 3) := by decide +kernel
theorem dX4_count_147 : decode cX4_count 147 = .ok (.aload_n 0, 1) := by decide +kernel
theorem dX4_count_148 : decode cX4_count 148 = .ok (.getfield 22, 3) := by decide +kernel
theorem dX4_count_151 : decode cX4_count 151 = .ok (.getfield 141, 3) := by decide +kernel
theorem dX4_count_154 : decode cX4_count 154 = .ok (.invokevirtual 156, 3) := by decide +kernel
theorem dX4_count_157 : decode cX4_count 157 = .ok (.ireturn, 1) := by decide +kernel
theorem dX4_count_158 : decode cX4_count 158 = .ok (.aload_n 0, 1) := by decide +kernel
theorem dX4_count_159 : decode cX4_count 159 = .ok (.getfield 22, 3) := by decide +kernel
theorem dX4_count_162 : decode cX4_count 162 = .ok (.getfield 160, 3) := by decide +kernel
theorem dX4_count_165 : decode cX4_count 165 = .ok (.ireturn, 1) := by decide +kernel
theorem dX4_count_166 : decode cX4_count 166 = .ok (.aload_n 0, 1) := by decide +kernel
theorem dX4_count_167 : decode cX4_count 167 = .ok (.getfield 22, 3) := by decide +kernel
theorem dX4_count_170 : decode cX4_count 170 = .ok (.getfield 163, 3) := by decide +kernel
theorem dX4_count_173 : decode cX4_count 173 = .ok (.ireturn, 1) := by decide +kernel
theorem dX4_count_174 : decode cX4_count 174 = .ok (.aload_n 0, 1) := by decide +kernel
theorem dX4_count_175 : decode cX4_count 175 = .ok (.getfield 22, 3) := by decide +kernel
theorem dX4_count_178 : decode cX4_count 178 = .ok (.getfield 166, 3) := by decide +kernel
theorem dX4_count_181 : decode cX4_count 181 = .ok (.ireturn, 1) := by decide +kernel
theorem dX4_count_182 : decode cX4_count 182 = .ok (.aload_n 0, 1) := by decide +kernel
theorem dX4_count_183 : decode cX4_count 183 = .ok (.getfield 22, 3) := by decide +kernel
theorem dX4_count_186 : decode cX4_count 186 = .ok (.getfield 169, 3) := by decide +kernel
theorem dX4_count_189 : decode cX4_count 189 = .ok (.ireturn, 1) := by decide +kernel
theorem dX4_count_190 : decode cX4_count 190 = .ok (.aload_n 0, 1) := by decide +kernel
theorem dX4_count_191 : decode cX4_count 191 = .ok (.getfield 22, 3) := by decide +kernel
theorem dX4_count_194 : decode cX4_count 194 = .ok (.getfield 172, 3) := by decide +kernel
theorem dX4_count_197 : decode cX4_count 197 = .ok (.ireturn, 1) := by decide +kernel
theorem dX4_count_198 : decode cX4_count 198 = .ok (.aload_n 0, 1) := by decide +kernel
theorem dX4_count_199 : decode cX4_count 199 = .ok (.getfield 22, 3) := by decide +kernel
theorem dX4_count_202 : decode cX4_count 202 = .ok (.getfield 175, 3) := by decide +kernel
theorem dX4_count_205 : decode cX4_count 205 = .ok (.ireturn, 1) := by decide +kernel
theorem dX4_count_206 : decode cX4_count 206 = .ok (.aload_n 0, 1) := by decide +kernel
theorem dX4_count_207 : decode cX4_count 207 = .ok (.getfield 22, 3) := by decide +kernel
theorem dX4_count_210 : decode cX4_count 210 = .ok (.getfield 178, 3) := by decide +kernel
theorem dX4_count_213 : decode cX4_count 213 = .ok (.ireturn, 1) := by decide +kernel
theorem dX4_count_214 : decode cX4_count 214 = .ok (.aload_n 0, 1) := by decide +kernel
theorem dX4_count_215 : decode cX4_count 215 = .ok (.getfield 29, 3) := by decide +kernel
theorem dX4_count_218 : decode cX4_count 218 = .ok (.getfield 92, 3) := by decide +kernel
theorem dX4_count_221 : decode cX4_count 221 = .ok (.ireturn, 1) := by decide +kernel
theorem dX4_count_222 : decode cX4_count 222 = .ok (.aload_n 0, 1) := by decide +kernel
theorem dX4_count_223 : decode cX4_count 223 = .ok (.getfield 36, 3) := by decide +kernel
theorem dX4_count_226 : decode cX4_count 226 = .ok (.getfield 181, 3) := by decide +kernel
theorem dX4_count_229 : decode cX4_count 229 = .ok (.ireturn, 1) := by decide +kernel
set_option maxRecDepth 20000 in
theorem ggX4_at_X4_within : GoodIn wsX4_at wsX4_within := goodIn_r _ [10] (by decide +kernel) (by decide +kernel)
set_option maxRecDepth 20000 in
theorem gX4_at_X4_within : GoodIn wsX4_at (va_wsS RX4 48 yX4_within wsX4_within) := goodIn_app (goodIn_of _ (by decide +kernel)) ggX4_at_X4_within
set_option maxRecDepth 20000 in
theorem ggX4_at_X3_print : GoodIn wsX4_at wsX3_print := goodIn_r _ [15, 16, 17, 18, 19, 20, 14, 21, 22, 23, 24, 25, 26, 27, 28, 29, 30, 31, 32, 33, 34, 35, 36, 37, 38, 39, 40, 41, 42, 43, 44, 45, 46, 47, 48, 49, 50, 9, 51, 52, 53, 54, 55, 56, 57, 58, 59, 60, 61, 62, 63, 64, 65, 85, 86, 87, 88, 89, 90, 91, 92, 93, 94, 95, 96, 97, 98, 99, 100, 101, 102, 103, 104, 105] (by decide +kernel) (by decide +kernel)
set_option maxRecDepth 20000 in
theorem gX4_at_X3_print : GoodIn wsX4_at (wsV RX4 115 RX3 yX3_print wsX3_print) := goodIn_app (goodIn_of _ (by decide +kernel)) ggX4_at_X3_print
set_option maxRecDepth 20000 in
theorem ggX4_at_X3_jobOnPress : GoodIn wsX4_at wsX3_jobOnPress := goodIn_r _ [69, 17, 49, 46, 88, 89, 90, 91, 92, 93, 94, 95, 96, 97, 98, 99, 100, 101, 102, 103, 104, 105] (by decide +kernel) (by decide +kernel)
set_option maxRecDepth 20000 in
theorem gX4_at_X3_jobOnPress : GoodIn wsX4_at (wsV RX4 185 RX3 yX3_jobOnPress wsX3_jobOnPress) := goodIn_app (goodIn_of _ (by decide +kernel)) ggX4_at_X3_jobOnPress
set_option maxRecDepth 20000 in
theorem ggX4_at_X3_racksTaken : GoodIn wsX4_at wsX3_racksTaken := goodIn_r _ [73, 17, 46, 56, 47, 88, 89, 90, 91, 92, 93, 94, 95, 96, 97, 98, 99, 100, 101, 102, 103, 104, 105] (by decide +kernel) (by decide +kernel)
set_option maxRecDepth 20000 in
theorem gX4_at_X3_racksTaken : GoodIn wsX4_at (wsV RX4 188 RX3 yX3_racksTaken wsX3_racksTaken) := goodIn_app (goodIn_of _ (by decide +kernel)) ggX4_at_X3_racksTaken
set_option maxRecDepth 20000 in
theorem ggX4_at_X3_reached : GoodIn wsX4_at wsX3_reached := goodIn_r _ [77, 17, 88, 89, 90, 91, 92, 93, 94, 95, 96, 97, 98, 99, 100, 101, 102, 103, 104, 105] (by decide +kernel) (by decide +kernel)
set_option maxRecDepth 20000 in
theorem gX4_at_X3_reached : GoodIn wsX4_at (wsV RX4 191 RX3 yX3_reached wsX3_reached) := goodIn_app (goodIn_of _ (by decide +kernel)) ggX4_at_X3_reached
theorem dX4_at_0 : decode cX4_at 0 = .ok (.iload_n 1, 1) := by decide +kernel
theorem dX4_at_1 : decode cX4_at 1 = .ok (.iconst 0, 1) := by decide +kernel
theorem dX4_at_2 : decode cX4_at 2 = .ok (.ldc 184, 2) := by decide +kernel
theorem dX4_at_4 : decode cX4_at 4 = .ok (.invokestatic 48, 3) := by decide +kernel
theorem dX4_at_7 : decode cX4_at 7 = .ok (.ifCond .eq 12, 3) := by decide +kernel
theorem dX4_at_10 : decode cX4_at 10 = .ok (.iload_n 2, 1) := by decide +kernel
theorem dX4_at_11 : decode cX4_at 11 = .ok (.iconst 0, 1) := by decide +kernel
theorem dX4_at_12 : decode cX4_at 12 = .ok (.iconst 3, 1) := by decide +kernel
theorem dX4_at_13 : decode cX4_at 13 = .ok (.invokestatic 48, 3) := by decide +kernel
theorem dX4_at_16 : decode cX4_at 16 = .ok (.ifCond .ne 6, 3) := by decide +kernel
theorem dX4_at_19 : decode cX4_at 19 = .ok (.bipush (-2), 2) := by decide +kernel
theorem dX4_at_21 : decode cX4_at 21 = .ok (.ireturn, 1) := by decide +kernel
theorem dX4_at_22 : decode cX4_at 22 = .ok (.aload_n 0, 1) := by decide +kernel
theorem dX4_at_23 : decode cX4_at 23 = .ok (.getfield 22, 3) := by decide +kernel
theorem dX4_at_26 : decode cX4_at 26 = .ok (.aload_n 0, 1) := by decide +kernel
theorem dX4_at_27 : decode cX4_at 27 = .ok (.getfield 10, 3) := by decide +kernel
theorem dX4_at_30 : decode cX4_at 30 = .ok (.aload_n 0, 1) := by decide +kernel
theorem dX4_at_31 : decode cX4_at 31 = .ok (.getfield 10, 3) := by decide +kernel
theorem dX4_at_34 : decode cX4_at 34 = .ok (.getfield 59, 3) := by decide +kernel
theorem dX4_at_37 : decode cX4_at 37 = .ok (.iconst 5, 1) := by decide +kernel
theorem dX4_at_38 : decode cX4_at 38 = .ok (.iaload, 1) := by decide +kernel
theorem dX4_at_39 : decode cX4_at 39 = .ok (.invokevirtual 115, 3) := by decide +kernel
theorem dX4_at_42 : decode cX4_at 42 = .ok (.iload_n 2, 1) := by decide +kernel
theorem dX4_at_43 : decode cX4_at 43 = .ok (.tableswitch 59 0 2 #[25, 34, 43], 25) := by decide +kernel
theorem dX4_at_68 : decode cX4_at 68 = .ok (.aload_n 0, 1) := by decide +kernel
theorem dX4_at_69 : decode cX4_at 69 = .ok (.getfield 22, 3) := by decide +kernel
theorem dX4_at_72 : decode cX4_at 72 = .ok (.iload_n 1, 1) := by decide +kernel
theorem dX4_at_73 : decode cX4_at 73 = .ok (.invokevirtual 185, 3) := by decide +kernel
theorem dX4_at_76 : decode cX4_at 76 = .ok (.ireturn, 1) := by decide +kernel
theorem dX4_at_77 : decode cX4_at 77 = .ok (.aload_n 0, 1) := by decide +kernel
theorem dX4_at_78 : decode cX4_at 78 = .ok (.getfield 22, 3) := by decide +kernel
theorem dX4_at_81 : decode cX4_at 81 = .ok (.iload_n 1, 1) := by decide +kernel
theorem dX4_at_82 : decode cX4_at 82 = .ok (.invokevirtual 188, 3) := by decide +kernel
theorem dX4_at_85 : decode cX4_at 85 = .ok (.ireturn, 1) := by decide +kernel
theorem dX4_at_86 : decode cX4_at 86 = .ok (.aload_n 0, 1) := by decide +kernel
theorem dX4_at_87 : decode cX4_at 87 = .ok (.getfield 22, 3) := by decide +kernel
theorem dX4_at_90 : decode cX4_at 90 = .ok (.aload_n 0, 1) := by decide +kernel
theorem dX4_at_91 : decode cX4_at 91 = .ok (.getfield 22, 3) := by decide +kernel
theorem dX4_at_94 : decode cX4_at 94 = .ok (.getfield 138, 3) := by decide +kernel
theorem dX4_at_97 : decode cX4_at 97 = .ok (.iload_n 1, 1) := by decide +kernel
theorem dX4_at_98 : decode cX4_at 98 = .ok (.invokevirtual 191, 3) := by decide +kernel
theorem dX4_at_101 : decode cX4_at 101 = .ok (.ireturn, 1) := by decide +kernel
theorem dX4_at_102 : decode cX4_at 102 = .ok (.aload_n 0, 1) := by decide +kernel
theorem dX4_at_103 : decode cX4_at 103 = .ok (.getfield 22, 3) := by decide +kernel
theorem dX4_at_106 : decode cX4_at 106 = .ok (.aload_n 0, 1) := by decide +kernel
theorem dX4_at_107 : decode cX4_at 107 = .ok (.getfield 22, 3) := by decide +kernel
theorem dX4_at_110 : decode cX4_at 110 = .ok (.getfield 141, 3) := by decide +kernel
theorem dX4_at_113 : decode cX4_at 113 = .ok (.iload_n 1, 1) := by decide +kernel
theorem dX4_at_114 : decode cX4_at 114 = .ok (.invokevirtual 191, 3) := by decide +kernel
theorem dX4_at_117 : decode cX4_at 117 = .ok (.ireturn, 1) := by decide +kernel
set_option maxRecDepth 20000 in
theorem ggX4_ifOrdered_X4_within : GoodIn wsX4_ifOrdered wsX4_within := goodIn_r _ [13] (by decide +kernel) (by decide +kernel)
set_option maxRecDepth 20000 in
theorem gX4_ifOrdered_X4_within : GoodIn wsX4_ifOrdered (va_wsS RX4 48 yX4_within wsX4_within) := goodIn_app (goodIn_of _ (by decide +kernel)) ggX4_ifOrdered_X4_within
set_option maxRecDepth 20000 in
theorem ggX4_ifOrdered_X0_arrange : GoodIn wsX4_ifOrdered wsX0_arrange := goodIn_r _ [18, 19, 20, 21, 22, 23, 17, 24, 25, 26, 27, 28, 29, 30, 31, 32, 33, 100, 101, 102] (by decide +kernel) (by decide +kernel)
set_option maxRecDepth 20000 in
theorem gX4_ifOrdered_X0_arrange : GoodIn wsX4_ifOrdered (wsV RX4 125 RX0 yX0_arrange wsX0_arrange) := goodIn_app (goodIn_of _ (by decide +kernel)) ggX4_ifOrdered_X0_arrange
set_option maxRecDepth 20000 in
theorem ggX4_ifOrdered_X3_print : GoodIn wsX4_ifOrdered wsX3_print := goodIn_r _ [38, 39, 40, 41, 42, 43, 37, 44, 45, 46, 47, 48, 49, 50, 51, 52, 53, 54, 55, 56, 57, 58, 59, 60, 61, 62, 63, 64, 65, 66, 67, 68, 69, 70, 71, 72, 73, 12, 74, 75, 76, 77, 78, 79, 80, 81, 82, 83, 84, 85, 86, 87, 88, 100, 101, 102, 103, 104, 105, 106, 107, 108, 109, 110, 111, 112, 113, 114, 115, 116, 117, 118, 119, 120] (by decide +kernel) (by decide +kernel)
set_option maxRecDepth 20000 in
theorem gX4_ifOrdered_X3_print : GoodIn wsX4_ifOrdered (wsV RX4 115 RX3 yX3_print wsX3_print) := goodIn_app (goodIn_of _ (by decide +kernel)) ggX4_ifOrdered_X3_print
set_option maxRecDepth 20000 in
theorem ggX4_ifOrdered_X3_lastOf : GoodIn wsX4_ifOrdered wsX3_lastOf := goodIn_r _ [92, 40, 103, 104, 105, 106, 107, 108, 109, 110, 111, 112, 113, 114, 115, 116, 117, 118, 119, 120] (by decide +kernel) (by decide +kernel)
set_option maxRecDepth 20000 in
theorem gX4_ifOrdered_X3_lastOf : GoodIn wsX4_ifOrdered (wsV RX4 156 RX3 yX3_lastOf wsX3_lastOf) := goodIn_app (goodIn_of _ (by decide +kernel)) ggX4_ifOrdered_X3_lastOf
theorem dX4_ifOrdered_0 : decode cX4_ifOrdered 0 = .ok (.iload_n 1, 1) := by decide +kernel
theorem dX4_ifOrdered_1 : decode cX4_ifOrdered 1 = .ok (.iconst 0, 1) := by decide +kernel
theorem dX4_ifOrdered_2 : decode cX4_ifOrdered 2 = .ok (.iconst 3, 1) := by decide +kernel
theorem dX4_ifOrdered_3 : decode cX4_ifOrdered 3 = .ok (.invokestatic 48, 3) := by decide +kernel
theorem dX4_ifOrdered_6 : decode cX4_ifOrdered 6 = .ok (.ifCond .eq 12, 3) := by decide +kernel
theorem dX4_ifOrdered_9 : decode cX4_ifOrdered 9 = .ok (.iload_n 2, 1) := by decide +kernel
theorem dX4_ifOrdered_10 : decode cX4_ifOrdered 10 = .ok (.iconst 0, 1) := by decide +kernel
theorem dX4_ifOrdered_11 : decode cX4_ifOrdered 11 = .ok (.iconst 3, 1) := by decide +kernel
theorem dX4_ifOrdered_12 : decode cX4_ifOrdered 12 = .ok (.invokestatic 48, 3) := by decide +kernel
theorem dX4_ifOrdered_15 : decode cX4_ifOrdered 15 = .ok (.ifCond .ne 6, 3) := by decide +kernel
theorem dX4_ifOrdered_18 : decode cX4_ifOrdered 18 = .ok (.bipush (-2), 2) := by decide +kernel
theorem dX4_ifOrdered_20 : decode cX4_ifOrdered 20 = .ok (.ireturn, 1) := by decide +kernel
theorem dX4_ifOrdered_21 : decode cX4_ifOrdered 21 = .ok (.aload_n 0, 1) := by decide +kernel
theorem dX4_ifOrdered_22 : decode cX4_ifOrdered 22 = .ok (.getfield 16, 3) := by decide +kernel
theorem dX4_ifOrdered_25 : decode cX4_ifOrdered 25 = .ok (.aload_n 0, 1) := by decide +kernel
theorem dX4_ifOrdered_26 : decode cX4_ifOrdered 26 = .ok (.getfield 10, 3) := by decide +kernel
theorem dX4_ifOrdered_29 : decode cX4_ifOrdered 29 = .ok (.getstatic 122, 3) := by decide +kernel
theorem dX4_ifOrdered_32 : decode cX4_ifOrdered 32 = .ok (.iload_n 1, 1) := by decide +kernel
theorem dX4_ifOrdered_33 : decode cX4_ifOrdered 33 = .ok (.iaload, 1) := by decide +kernel
theorem dX4_ifOrdered_34 : decode cX4_ifOrdered 34 = .ok (.invokevirtual 125, 3) := by decide +kernel
theorem dX4_ifOrdered_37 : decode cX4_ifOrdered 37 = .ok (.pop, 1) := by decide +kernel
theorem dX4_ifOrdered_38 : decode cX4_ifOrdered 38 = .ok (.aload_n 0, 1) := by decide +kernel
theorem dX4_ifOrdered_39 : decode cX4_ifOrdered 39 = .ok (.getfield 22, 3) := by decide +kernel
theorem dX4_ifOrdered_42 : decode cX4_ifOrdered 42 = .ok (.aload_n 0, 1) := by decide +kernel
theorem dX4_ifOrdered_43 : decode cX4_ifOrdered 43 = .ok (.getfield 16, 3) := by decide +kernel
theorem dX4_ifOrdered_46 : decode cX4_ifOrdered 46 = .ok (.aload_n 0, 1) := by decide +kernel
theorem dX4_ifOrdered_47 : decode cX4_ifOrdered 47 = .ok (.getfield 16, 3) := by decide +kernel
theorem dX4_ifOrdered_50 : decode cX4_ifOrdered 50 = .ok (.getfield 59, 3) := by decide +kernel
theorem dX4_ifOrdered_53 : decode cX4_ifOrdered 53 = .ok (.iconst 5, 1) := by decide +kernel
theorem dX4_ifOrdered_54 : decode cX4_ifOrdered 54 = .ok (.iaload, 1) := by decide +kernel
theorem dX4_ifOrdered_55 : decode cX4_ifOrdered 55 = .ok (.invokevirtual 115, 3) := by decide +kernel
theorem dX4_ifOrdered_58 : decode cX4_ifOrdered 58 = .ok (.iload_n 2, 1) := by decide +kernel
theorem dX4_ifOrdered_59 : decode cX4_ifOrdered 59 = .ok (.tableswitch 56 0 2 #[25, 40, 48], 25) := by decide +kernel
theorem dX4_ifOrdered_84 : decode cX4_ifOrdered 84 = .ok (.aload_n 0, 1) := by decide +kernel
theorem dX4_ifOrdered_85 : decode cX4_ifOrdered 85 = .ok (.getfield 22, 3) := by decide +kernel
theorem dX4_ifOrdered_88 : decode cX4_ifOrdered 88 = .ok (.aload_n 0, 1) := by decide +kernel
theorem dX4_ifOrdered_89 : decode cX4_ifOrdered 89 = .ok (.getfield 22, 3) := by decide +kernel
theorem dX4_ifOrdered_92 : decode cX4_ifOrdered 92 = .ok (.getfield 141, 3) := by decide +kernel
theorem dX4_ifOrdered_95 : decode cX4_ifOrdered 95 = .ok (.invokevirtual 156, 3) := by decide +kernel
theorem dX4_ifOrdered_98 : decode cX4_ifOrdered 98 = .ok (.ireturn, 1) := by decide +kernel
theorem dX4_ifOrdered_99 : decode cX4_ifOrdered 99 = .ok (.aload_n 0, 1) := by decide +kernel
theorem dX4_ifOrdered_100 : decode cX4_ifOrdered 100 = .ok (.getfield 22, 3) := by decide +kernel
theorem dX4_ifOrdered_103 : decode cX4_ifOrdered 103 = .ok (.getfield 163, 3) := by decide +kernel
theorem dX4_ifOrdered_106 : decode cX4_ifOrdered 106 = .ok (.ireturn, 1) := by decide +kernel
theorem dX4_ifOrdered_107 : decode cX4_ifOrdered 107 = .ok (.aload_n 0, 1) := by decide +kernel
theorem dX4_ifOrdered_108 : decode cX4_ifOrdered 108 = .ok (.getfield 22, 3) := by decide +kernel
theorem dX4_ifOrdered_111 : decode cX4_ifOrdered 111 = .ok (.getfield 169, 3) := by decide +kernel
theorem dX4_ifOrdered_114 : decode cX4_ifOrdered 114 = .ok (.ireturn, 1) := by decide +kernel
theorem dX4_ifOrdered_115 : decode cX4_ifOrdered 115 = .ok (.aload_n 0, 1) := by decide +kernel
theorem dX4_ifOrdered_116 : decode cX4_ifOrdered 116 = .ok (.getfield 22, 3) := by decide +kernel
theorem dX4_ifOrdered_119 : decode cX4_ifOrdered 119 = .ok (.getfield 172, 3) := by decide +kernel
theorem dX4_ifOrdered_122 : decode cX4_ifOrdered 122 = .ok (.ireturn, 1) := by decide +kernel
set_option maxRecDepth 20000 in
theorem ggX4_bestExchange_X4_within : GoodIn wsX4_bestExchange wsX4_within := goodIn_r _ [7] (by decide +kernel) (by decide +kernel)
set_option maxRecDepth 20000 in
theorem gX4_bestExchange_X4_within : GoodIn wsX4_bestExchange (va_wsS RX4 48 yX4_within wsX4_within) := goodIn_app (goodIn_of _ (by decide +kernel)) ggX4_bestExchange_X4_within
set_option maxRecDepth 20000 in
theorem ggX4_bestExchange_X0_copyFrom : GoodIn wsX4_bestExchange wsX0_copyFrom := goodIn_r _ [12, 13, 14, 15, 16, 17, 18, 19, 97, 98, 99] (by decide +kernel) (by decide +kernel)
set_option maxRecDepth 20000 in
theorem gX4_bestExchange_X0_copyFrom : GoodIn wsX4_bestExchange (wsV RX4 129 RX0 yX0_copyFrom wsX0_copyFrom) := goodIn_app (goodIn_of _ (by decide +kernel)) ggX4_bestExchange_X0_copyFrom
set_option maxRecDepth 20000 in
theorem ggX4_bestExchange_X4_lateSumOf : GoodIn wsX4_bestExchange wsX4_lateSumOf := goodIn_r _ [23, 24, 25, 26, 27, 28, 29, 30, 31, 32, 33, 34, 35, 36, 37, 38, 39, 40, 41, 42, 43, 44, 45, 46, 47, 48, 49, 50, 51, 52, 53, 54, 55, 56, 57, 58, 59, 60, 61, 62, 63, 64, 65, 66, 6, 67, 68, 69, 70, 71, 72, 73, 74, 75, 76, 77, 78, 79, 80, 81, 90, 91, 92, 93, 94, 95, 96, 97, 98, 99, 100, 101, 102, 103, 104, 105, 106, 107, 108, 109, 110, 111, 112, 113, 114, 115, 116, 117] (by decide +kernel) (by decide +kernel)
set_option maxRecDepth 20000 in
theorem gX4_bestExchange_X4_lateSumOf : GoodIn wsX4_bestExchange (wsV RX4 107 RX4 yX4_lateSumOf wsX4_lateSumOf) := goodIn_app (goodIn_of _ (by decide +kernel)) ggX4_bestExchange_X4_lateSumOf
set_option maxRecDepth 20000 in
theorem ggX4_bestExchange_X4_lateSumIfExchanged : GoodIn wsX4_bestExchange wsX4_lateSumIfExchanged := goodIn_r _ [85, 1, 86, 87, 88, 11, 89, 18, 20, 21, 22, 6, 23, 24, 25, 26, 27, 28, 29, 30, 31, 32, 33, 34, 35, 36, 37, 38, 39, 40, 41, 42, 43, 44, 45, 46, 47, 48, 49, 50, 51, 52, 53, 54, 55, 56, 57, 58, 59, 60, 61, 62, 63, 64, 65, 66, 67, 68, 69, 70, 71, 72, 73, 74, 75, 76, 77, 78, 79, 80, 81, 90, 91, 92, 93, 94, 95, 96, 97, 98, 99, 100, 101, 102, 103, 104, 105, 106, 107, 108, 109, 110, 111, 112, 113, 114, 115, 116, 117] (by decide +kernel) (by decide +kernel)
set_option maxRecDepth 20000 in
theorem gX4_bestExchange_X4_lateSumIfExchanged : GoodIn wsX4_bestExchange (wsV RX4 195 RX4 yX4_lateSumIfExchanged wsX4_lateSumIfExchanged) := goodIn_app (goodIn_of _ (by decide +kernel)) ggX4_bestExchange_X4_lateSumIfExchanged
theorem dX4_bestExchange_0 : decode cX4_bestExchange 0 = .ok (.iload_n 1, 1) := by decide +kernel
theorem dX4_bestExchange_1 : decode cX4_bestExchange 1 = .ok (.iconst 0, 1) := by decide +kernel
theorem dX4_bestExchange_2 : decode cX4_bestExchange 2 = .ok (.iconst 2, 1) := by decide +kernel
theorem dX4_bestExchange_3 : decode cX4_bestExchange 3 = .ok (.invokestatic 48, 3) := by decide +kernel
theorem dX4_bestExchange_6 : decode cX4_bestExchange 6 = .ok (.ifCond .ne 6, 3) := by decide +kernel
theorem dX4_bestExchange_9 : decode cX4_bestExchange 9 = .ok (.bipush (-2), 2) := by decide +kernel
theorem dX4_bestExchange_11 : decode cX4_bestExchange 11 = .ok (.ireturn, 1) := by decide +kernel
theorem dX4_bestExchange_12 : decode cX4_bestExchange 12 = .ok (.aload_n 0, 1) := by decide +kernel
theorem dX4_bestExchange_13 : decode cX4_bestExchange 13 = .ok (.getfield 16, 3) := by decide +kernel
theorem dX4_bestExchange_16 : decode cX4_bestExchange 16 = .ok (.aload_n 0, 1) := by decide +kernel
theorem dX4_bestExchange_17 : decode cX4_bestExchange 17 = .ok (.getfield 10, 3) := by decide +kernel
theorem dX4_bestExchange_20 : decode cX4_bestExchange 20 = .ok (.invokevirtual 129, 3) := by decide +kernel
theorem dX4_bestExchange_23 : decode cX4_bestExchange 23 = .ok (.aload_n 0, 1) := by decide +kernel
theorem dX4_bestExchange_24 : decode cX4_bestExchange 24 = .ok (.aload_n 0, 1) := by decide +kernel
theorem dX4_bestExchange_25 : decode cX4_bestExchange 25 = .ok (.getfield 16, 3) := by decide +kernel
theorem dX4_bestExchange_28 : decode cX4_bestExchange 28 = .ok (.invokevirtual 107, 3) := by decide +kernel
theorem dX4_bestExchange_31 : decode cX4_bestExchange 31 = .ok (.istore_n 2, 1) := by decide +kernel
theorem dX4_bestExchange_32 : decode cX4_bestExchange 32 = .ok (.bipush (-6), 2) := by decide +kernel
theorem dX4_bestExchange_34 : decode cX4_bestExchange 34 = .ok (.istore_n 3, 1) := by decide +kernel
theorem dX4_bestExchange_35 : decode cX4_bestExchange 35 = .ok (.bipush (-6), 2) := by decide +kernel
theorem dX4_bestExchange_37 : decode cX4_bestExchange 37 = .ok (.istore 4, 2) := by decide +kernel
theorem dX4_bestExchange_39 : decode cX4_bestExchange 39 = .ok (.iconst 0, 1) := by decide +kernel
theorem dX4_bestExchange_40 : decode cX4_bestExchange 40 = .ok (.istore 5, 2) := by decide +kernel
theorem dX4_bestExchange_42 : decode cX4_bestExchange 42 = .ok (.iload 5, 2) := by decide +kernel
theorem dX4_bestExchange_44 : decode cX4_bestExchange 44 = .ok (.aload_n 0, 1) := by decide +kernel
theorem dX4_bestExchange_45 : decode cX4_bestExchange 45 = .ok (.getfield 10, 3) := by decide +kernel
theorem dX4_bestExchange_48 : decode cX4_bestExchange 48 = .ok (.getfield 74, 3) := by decide +kernel
theorem dX4_bestExchange_51 : decode cX4_bestExchange 51 = .ok (.if_icmp .ge 59, 3) := by decide +kernel
theorem dX4_bestExchange_54 : decode cX4_bestExchange 54 = .ok (.iload 5, 2) := by decide +kernel
theorem dX4_bestExchange_56 : decode cX4_bestExchange 56 = .ok (.iconst 1, 1) := by decide +kernel
theorem dX4_bestExchange_57 : decode cX4_bestExchange 57 = .ok (.iadd, 1) := by decide +kernel
theorem dX4_bestExchange_58 : decode cX4_bestExchange 58 = .ok (.istore 6, 2) := by decide +kernel
theorem dX4_bestExchange_60 : decode cX4_bestExchange 60 = .ok (.iload 6, 2) := by decide +kernel
theorem dX4_bestExchange_62 : decode cX4_bestExchange 62 = .ok (.aload_n 0, 1) := by decide +kernel
theorem dX4_bestExchange_63 : decode cX4_bestExchange 63 = .ok (.getfield 10, 3) := by decide +kernel
theorem dX4_bestExchange_66 : decode cX4_bestExchange 66 = .ok (.getfield 74, 3) := by decide +kernel
theorem dX4_bestExchange_69 : decode cX4_bestExchange 69 = .ok (.if_icmp .ge 35, 3) := by decide +kernel
theorem dX4_bestExchange_72 : decode cX4_bestExchange 72 = .ok (.aload_n 0, 1) := by decide +kernel
theorem dX4_bestExchange_73 : decode cX4_bestExchange 73 = .ok (.iload 5, 2) := by decide +kernel
theorem dX4_bestExchange_75 : decode cX4_bestExchange 75 = .ok (.iload 6, 2) := by decide +kernel
theorem dX4_bestExchange_77 : decode cX4_bestExchange 77 = .ok (.invokevirtual 195, 3) := by decide +kernel
theorem dX4_bestExchange_80 : decode cX4_bestExchange 80 = .ok (.istore 7, 2) := by decide +kernel
theorem dX4_bestExchange_82 : decode cX4_bestExchange 82 = .ok (.iload 7, 2) := by decide +kernel
theorem dX4_bestExchange_84 : decode cX4_bestExchange 84 = .ok (.iload_n 2, 1) := by decide +kernel
theorem dX4_bestExchange_85 : decode cX4_bestExchange 85 = .ok (.if_icmp .ge 13, 3) := by decide +kernel
theorem dX4_bestExchange_88 : decode cX4_bestExchange 88 = .ok (.iload 7, 2) := by decide +kernel
theorem dX4_bestExchange_90 : decode cX4_bestExchange 90 = .ok (.istore_n 2, 1) := by decide +kernel
theorem dX4_bestExchange_91 : decode cX4_bestExchange 91 = .ok (.iload 5, 2) := by decide +kernel
theorem dX4_bestExchange_93 : decode cX4_bestExchange 93 = .ok (.istore_n 3, 1) := by decide +kernel
theorem dX4_bestExchange_94 : decode cX4_bestExchange 94 = .ok (.iload 6, 2) := by decide +kernel
theorem dX4_bestExchange_96 : decode cX4_bestExchange 96 = .ok (.istore 4, 2) := by decide +kernel
theorem dX4_bestExchange_98 : decode cX4_bestExchange 98 = .ok (.iinc 6 1, 3) := by decide +kernel
theorem dX4_bestExchange_101 : decode cX4_bestExchange 101 = .ok (.goto (-41), 3) := by decide +kernel
theorem dX4_bestExchange_104 : decode cX4_bestExchange 104 = .ok (.iinc 5 1, 3) := by decide +kernel
theorem dX4_bestExchange_107 : decode cX4_bestExchange 107 = .ok (.goto (-65), 3) := by decide +kernel
theorem dX4_bestExchange_110 : decode cX4_bestExchange 110 = .ok (.iload_n 3, 1) := by decide +kernel
theorem dX4_bestExchange_111 : decode cX4_bestExchange 111 = .ok (.bipush (-6), 2) := by decide +kernel
theorem dX4_bestExchange_113 : decode cX4_bestExchange 113 = .ok (.if_icmp .ne 6, 3) := by decide +kernel
theorem dX4_bestExchange_116 : decode cX4_bestExchange 116 = .ok (.bipush (-6), 2) := by decide +kernel
theorem dX4_bestExchange_118 : decode cX4_bestExchange 118 = .ok (.ireturn, 1) := by decide +kernel
theorem dX4_bestExchange_119 : decode cX4_bestExchange 119 = .ok (.iload_n 1, 1) := by decide +kernel
theorem dX4_bestExchange_120 : decode cX4_bestExchange 120 = .ok (.lookupswitch 33 #[(0, 28), (1, 30)], 28) := by decide +kernel
theorem dX4_bestExchange_148 : decode cX4_bestExchange 148 = .ok (.iload_n 3, 1) := by decide +kernel
theorem dX4_bestExchange_149 : decode cX4_bestExchange 149 = .ok (.ireturn, 1) := by decide +kernel
theorem dX4_bestExchange_150 : decode cX4_bestExchange 150 = .ok (.iload 4, 2) := by decide +kernel
theorem dX4_bestExchange_152 : decode cX4_bestExchange 152 = .ok (.ireturn, 1) := by decide +kernel
theorem dX4_bestExchange_153 : decode cX4_bestExchange 153 = .ok (.iload_n 2, 1) := by decide +kernel
theorem dX4_bestExchange_154 : decode cX4_bestExchange 154 = .ok (.ireturn, 1) := by decide +kernel
set_option maxRecDepth 20000 in
theorem ggX4_bestFirst_X0_copyFrom : GoodIn wsX4_bestFirst wsX0_copyFrom := goodIn_r _ [8, 9, 10, 11, 12, 13, 14, 15, 94, 95, 96] (by decide +kernel) (by decide +kernel)
set_option maxRecDepth 20000 in
theorem gX4_bestFirst_X0_copyFrom : GoodIn wsX4_bestFirst (wsV RX4 129 RX0 yX0_copyFrom wsX0_copyFrom) := goodIn_app (goodIn_of _ (by decide +kernel)) ggX4_bestFirst_X0_copyFrom
set_option maxRecDepth 20000 in
theorem ggX4_bestFirst_X4_lateSumIfFirst : GoodIn wsX4_bestFirst wsX4_lateSumIfFirst := goodIn_r _ [20, 1, 21, 22, 23, 7, 24, 14, 25, 26, 27, 19, 28, 29, 30, 31, 32, 33, 34, 35, 36, 37, 38, 39, 40, 41, 42, 43, 44, 45, 46, 47, 48, 49, 50, 51, 52, 53, 54, 55, 56, 57, 58, 59, 60, 61, 62, 63, 64, 65, 66, 67, 68, 69, 70, 71, 72, 73, 74, 75, 76, 77, 78, 79, 80, 81, 82, 83, 84, 85, 86, 87, 88, 89, 90, 91, 92, 93, 94, 95, 96, 97, 98, 99, 100, 101, 102, 103, 104, 105, 106, 107, 108, 109, 110, 111, 112, 113, 114] (by decide +kernel) (by decide +kernel)
set_option maxRecDepth 20000 in
theorem gX4_bestFirst_X4_lateSumIfFirst : GoodIn wsX4_bestFirst (wsV RX4 198 RX4 yX4_lateSumIfFirst wsX4_lateSumIfFirst) := goodIn_app (goodIn_of _ (by decide +kernel)) ggX4_bestFirst_X4_lateSumIfFirst
theorem dX4_bestFirst_0 : decode cX4_bestFirst 0 = .ok (.aload_n 0, 1) := by decide +kernel
theorem dX4_bestFirst_1 : decode cX4_bestFirst 1 = .ok (.getfield 16, 3) := by decide +kernel
theorem dX4_bestFirst_4 : decode cX4_bestFirst 4 = .ok (.aload_n 0, 1) := by decide +kernel
theorem dX4_bestFirst_5 : decode cX4_bestFirst 5 = .ok (.getfield 10, 3) := by decide +kernel
theorem dX4_bestFirst_8 : decode cX4_bestFirst 8 = .ok (.invokevirtual 129, 3) := by decide +kernel
theorem dX4_bestFirst_11 : decode cX4_bestFirst 11 = .ok (.bipush (-6), 2) := by decide +kernel
theorem dX4_bestFirst_13 : decode cX4_bestFirst 13 = .ok (.istore_n 1, 1) := by decide +kernel
theorem dX4_bestFirst_14 : decode cX4_bestFirst 14 = .ok (.iconst 0, 1) := by decide +kernel
theorem dX4_bestFirst_15 : decode cX4_bestFirst 15 = .ok (.istore_n 2, 1) := by decide +kernel
theorem dX4_bestFirst_16 : decode cX4_bestFirst 16 = .ok (.iconst 0, 1) := by decide +kernel
theorem dX4_bestFirst_17 : decode cX4_bestFirst 17 = .ok (.istore_n 3, 1) := by decide +kernel
theorem dX4_bestFirst_18 : decode cX4_bestFirst 18 = .ok (.iload_n 3, 1) := by decide +kernel
theorem dX4_bestFirst_19 : decode cX4_bestFirst 19 = .ok (.aload_n 0, 1) := by decide +kernel
theorem dX4_bestFirst_20 : decode cX4_bestFirst 20 = .ok (.getfield 10, 3) := by decide +kernel
theorem dX4_bestFirst_23 : decode cX4_bestFirst 23 = .ok (.getfield 74, 3) := by decide +kernel
theorem dX4_bestFirst_26 : decode cX4_bestFirst 26 = .ok (.if_icmp .ge 33, 3) := by decide +kernel
theorem dX4_bestFirst_29 : decode cX4_bestFirst 29 = .ok (.aload_n 0, 1) := by decide +kernel
theorem dX4_bestFirst_30 : decode cX4_bestFirst 30 = .ok (.iload_n 3, 1) := by decide +kernel
theorem dX4_bestFirst_31 : decode cX4_bestFirst 31 = .ok (.invokevirtual 198, 3) := by decide +kernel
theorem dX4_bestFirst_34 : decode cX4_bestFirst 34 = .ok (.istore 4, 2) := by decide +kernel
theorem dX4_bestFirst_36 : decode cX4_bestFirst 36 = .ok (.iload_n 1, 1) := by decide +kernel
theorem dX4_bestFirst_37 : decode cX4_bestFirst 37 = .ok (.bipush (-6), 2) := by decide +kernel
theorem dX4_bestFirst_39 : decode cX4_bestFirst 39 = .ok (.if_icmp .eq 9, 3) := by decide +kernel
theorem dX4_bestFirst_42 : decode cX4_bestFirst 42 = .ok (.iload 4, 2) := by decide +kernel
theorem dX4_bestFirst_44 : decode cX4_bestFirst 44 = .ok (.iload_n 2, 1) := by decide +kernel
theorem dX4_bestFirst_45 : decode cX4_bestFirst 45 = .ok (.if_icmp .ge 8, 3) := by decide +kernel
theorem dX4_bestFirst_48 : decode cX4_bestFirst 48 = .ok (.iload_n 3, 1) := by decide +kernel
theorem dX4_bestFirst_49 : decode cX4_bestFirst 49 = .ok (.istore_n 1, 1) := by decide +kernel
theorem dX4_bestFirst_50 : decode cX4_bestFirst 50 = .ok (.iload 4, 2) := by decide +kernel
theorem dX4_bestFirst_52 : decode cX4_bestFirst 52 = .ok (.istore_n 2, 1) := by decide +kernel
theorem dX4_bestFirst_53 : decode cX4_bestFirst 53 = .ok (.iinc 3 1, 3) := by decide +kernel
theorem dX4_bestFirst_56 : decode cX4_bestFirst 56 = .ok (.goto (-38), 3) := by decide +kernel
theorem dX4_bestFirst_59 : decode cX4_bestFirst 59 = .ok (.iload_n 1, 1) := by decide +kernel
theorem dX4_bestFirst_60 : decode cX4_bestFirst 60 = .ok (.ireturn, 1) := by decide +kernel
set_option maxRecDepth 20000 in
theorem ggX4_leastRacks_X0_mostRacksNeeded : GoodIn wsX4_leastRacks wsX0_mostRacksNeeded := goodIn_r _ [15, 16, 17, 18, 5, 6, 7, 19, 20, 21, 79, 80, 81] (by decide +kernel) (by decide +kernel)
set_option maxRecDepth 20000 in
theorem gX4_leastRacks_X0_mostRacksNeeded : GoodIn wsX4_leastRacks (wsV RX4 62 RX0 yX0_mostRacksNeeded wsX0_mostRacksNeeded) := goodIn_app (goodIn_of _ (by decide +kernel)) ggX4_leastRacks_X0_mostRacksNeeded
set_option maxRecDepth 20000 in
theorem ggX4_leastRacks_X3_print : GoodIn wsX4_leastRacks wsX3_print := goodIn_r _ [26, 27, 28, 29, 30, 31, 25, 32, 33, 34, 35, 36, 37, 38, 39, 40, 41, 42, 43, 44, 45, 46, 47, 48, 49, 50, 51, 52, 53, 54, 55, 56, 57, 58, 59, 60, 19, 20, 21, 61, 62, 63, 64, 65, 66, 5, 6, 7, 67, 68, 69, 70, 71, 79, 80, 81, 82, 83, 84, 85, 86, 87, 88, 89, 90, 91, 92, 93, 94, 95, 96, 97, 98, 99] (by decide +kernel) (by decide +kernel)
set_option maxRecDepth 20000 in
theorem gX4_leastRacks_X3_print : GoodIn wsX4_leastRacks (wsV RX4 115 RX3 yX3_print wsX3_print) := goodIn_app (goodIn_of _ (by decide +kernel)) ggX4_leastRacks_X3_print
theorem dX4_leastRacks_0 : decode cX4_leastRacks 0 = .ok (.aload_n 0, 1) := by decide +kernel
theorem dX4_leastRacks_1 : decode cX4_leastRacks 1 = .ok (.getfield 10, 3) := by decide +kernel
theorem dX4_leastRacks_4 : decode cX4_leastRacks 4 = .ok (.aload_n 0, 1) := by decide +kernel
theorem dX4_leastRacks_5 : decode cX4_leastRacks 5 = .ok (.getfield 10, 3) := by decide +kernel
theorem dX4_leastRacks_8 : decode cX4_leastRacks 8 = .ok (.getfield 59, 3) := by decide +kernel
theorem dX4_leastRacks_11 : decode cX4_leastRacks 11 = .ok (.bipush 6, 2) := by decide +kernel
theorem dX4_leastRacks_13 : decode cX4_leastRacks 13 = .ok (.iaload, 1) := by decide +kernel
theorem dX4_leastRacks_14 : decode cX4_leastRacks 14 = .ok (.invokevirtual 62, 3) := by decide +kernel
theorem dX4_leastRacks_17 : decode cX4_leastRacks 17 = .ok (.istore_n 1, 1) := by decide +kernel
theorem dX4_leastRacks_18 : decode cX4_leastRacks 18 = .ok (.iload_n 1, 1) := by decide +kernel
theorem dX4_leastRacks_19 : decode cX4_leastRacks 19 = .ok (.getstatic 52, 3) := by decide +kernel
theorem dX4_leastRacks_22 : decode cX4_leastRacks 22 = .ok (.iconst 5, 1) := by decide +kernel
theorem dX4_leastRacks_23 : decode cX4_leastRacks 23 = .ok (.iaload, 1) := by decide +kernel
theorem dX4_leastRacks_24 : decode cX4_leastRacks 24 = .ok (.invokestatic 201, 3) := by decide +kernel
theorem dX4_leastRacks_27 : decode cX4_leastRacks 27 = .ok (.istore_n 2, 1) := by decide +kernel
theorem dX4_leastRacks_28 : decode cX4_leastRacks 28 = .ok (.iload_n 2, 1) := by decide +kernel
theorem dX4_leastRacks_29 : decode cX4_leastRacks 29 = .ok (.istore_n 3, 1) := by decide +kernel
theorem dX4_leastRacks_30 : decode cX4_leastRacks 30 = .ok (.iload_n 3, 1) := by decide +kernel
theorem dX4_leastRacks_31 : decode cX4_leastRacks 31 = .ok (.getstatic 56, 3) := by decide +kernel
theorem dX4_leastRacks_34 : decode cX4_leastRacks 34 = .ok (.iconst 5, 1) := by decide +kernel
theorem dX4_leastRacks_35 : decode cX4_leastRacks 35 = .ok (.iaload, 1) := by decide +kernel
theorem dX4_leastRacks_36 : decode cX4_leastRacks 36 = .ok (.if_icmp .gt 33, 3) := by decide +kernel
theorem dX4_leastRacks_39 : decode cX4_leastRacks 39 = .ok (.aload_n 0, 1) := by decide +kernel
theorem dX4_leastRacks_40 : decode cX4_leastRacks 40 = .ok (.getfield 22, 3) := by decide +kernel
theorem dX4_leastRacks_43 : decode cX4_leastRacks 43 = .ok (.aload_n 0, 1) := by decide +kernel
theorem dX4_leastRacks_44 : decode cX4_leastRacks 44 = .ok (.getfield 10, 3) := by decide +kernel
theorem dX4_leastRacks_47 : decode cX4_leastRacks 47 = .ok (.iload_n 3, 1) := by decide +kernel
theorem dX4_leastRacks_48 : decode cX4_leastRacks 48 = .ok (.invokevirtual 115, 3) := by decide +kernel
theorem dX4_leastRacks_51 : decode cX4_leastRacks 51 = .ok (.aload_n 0, 1) := by decide +kernel
theorem dX4_leastRacks_52 : decode cX4_leastRacks 52 = .ok (.getfield 22, 3) := by decide +kernel
theorem dX4_leastRacks_55 : decode cX4_leastRacks 55 = .ok (.getfield 175, 3) := by decide +kernel
theorem dX4_leastRacks_58 : decode cX4_leastRacks 58 = .ok (.ifCond .ne 5, 3) := by decide +kernel
theorem dX4_leastRacks_61 : decode cX4_leastRacks 61 = .ok (.iload_n 3, 1) := by decide +kernel
theorem dX4_leastRacks_62 : decode cX4_leastRacks 62 = .ok (.ireturn, 1) := by decide +kernel
theorem dX4_leastRacks_63 : decode cX4_leastRacks 63 = .ok (.iinc 3 1, 3) := by decide +kernel
theorem dX4_leastRacks_66 : decode cX4_leastRacks 66 = .ok (.goto (-36), 3) := by decide +kernel
theorem dX4_leastRacks_69 : decode cX4_leastRacks 69 = .ok (.bipush (-6), 2) := by decide +kernel
theorem dX4_leastRacks_71 : decode cX4_leastRacks 71 = .ok (.ireturn, 1) := by decide +kernel
set_option maxRecDepth 20000 in
theorem ggX4_put_X4_charactersIn : GoodIn wsX4_put wsX4_charactersIn := goodIn_r _ [6, 7, 8, 9, 5, 10] (by decide +kernel) (by decide +kernel)
set_option maxRecDepth 20000 in
theorem gX4_put_X4_charactersIn : GoodIn wsX4_put (va_wsS RX4 206 yX4_charactersIn wsX4_charactersIn) := goodIn_app (goodIn_of _ (by decide +kernel)) ggX4_put_X4_charactersIn
set_option maxRecDepth 20000 in
theorem ggX4_put_X2_append : GoodIn wsX4_put wsX2_append := goodIn_r _ [15, 16, 17, 25, 26, 27, 28, 29, 30, 31, 32] (by decide +kernel) (by decide +kernel)
set_option maxRecDepth 20000 in
theorem gX4_put_X2_append : GoodIn wsX4_put (wsV RX4 210 RX2 yX2_append wsX2_append) := goodIn_app (goodIn_of _ (by decide +kernel)) ggX4_put_X2_append
theorem dX4_put_0 : decode cX4_put 0 = .ok (.lload_n 1, 1) := by decide +kernel
theorem dX4_put_1 : decode cX4_put 1 = .ok (.invokestatic 206, 3) := by decide +kernel
theorem dX4_put_4 : decode cX4_put 4 = .ok (.istore_n 3, 1) := by decide +kernel
theorem dX4_put_5 : decode cX4_put 5 = .ok (.iload_n 3, 1) := by decide +kernel
theorem dX4_put_6 : decode cX4_put 6 = .ok (.bipush (-2), 2) := by decide +kernel
theorem dX4_put_8 : decode cX4_put 8 = .ok (.if_icmp .ne 6, 3) := by decide +kernel
theorem dX4_put_11 : decode cX4_put 11 = .ok (.bipush (-2), 2) := by decide +kernel
theorem dX4_put_13 : decode cX4_put 13 = .ok (.ireturn, 1) := by decide +kernel
theorem dX4_put_14 : decode cX4_put 14 = .ok (.aload_n 0, 1) := by decide +kernel
theorem dX4_put_15 : decode cX4_put 15 = .ok (.getfield 29, 3) := by decide +kernel
theorem dX4_put_18 : decode cX4_put 18 = .ok (.getfield 92, 3) := by decide +kernel
theorem dX4_put_21 : decode cX4_put 21 = .ok (.iload_n 3, 1) := by decide +kernel
theorem dX4_put_22 : decode cX4_put 22 = .ok (.iadd, 1) := by decide +kernel
theorem dX4_put_23 : decode cX4_put 23 = .ok (.bipush 60, 2) := by decide +kernel
theorem dX4_put_25 : decode cX4_put 25 = .ok (.if_icmp .le 6, 3) := by decide +kernel
theorem dX4_put_28 : decode cX4_put 28 = .ok (.bipush (-4), 2) := by decide +kernel
theorem dX4_put_30 : decode cX4_put 30 = .ok (.ireturn, 1) := by decide +kernel
theorem dX4_put_31 : decode cX4_put 31 = .ok (.iload_n 3, 1) := by decide +kernel
theorem dX4_put_32 : decode cX4_put 32 = .ok (.iconst 1, 1) := by decide +kernel
theorem dX4_put_33 : decode cX4_put 33 = .ok (.isub, 1) := by decide +kernel
theorem dX4_put_34 : decode cX4_put 34 = .ok (.istore 4, 2) := by decide +kernel
theorem dX4_put_36 : decode cX4_put 36 = .ok (.iload 4, 2) := by decide +kernel
theorem dX4_put_38 : decode cX4_put 38 = .ok (.ifCond .lt 28, 3) := by decide +kernel
theorem dX4_put_41 : decode cX4_put 41 = .ok (.aload_n 0, 1) := by decide +kernel
theorem dX4_put_42 : decode cX4_put 42 = .ok (.getfield 29, 3) := by decide +kernel
theorem dX4_put_45 : decode cX4_put 45 = .ok (.lload_n 1, 1) := by decide +kernel
theorem dX4_put_46 : decode cX4_put 46 = .ok (.bipush 8, 2) := by decide +kernel
theorem dX4_put_48 : decode cX4_put 48 = .ok (.iload 4, 2) := by decide +kernel
theorem dX4_put_50 : decode cX4_put 50 = .ok (.imul, 1) := by decide +kernel
theorem dX4_put_51 : decode cX4_put 51 = .ok (.lushr, 1) := by decide +kernel
theorem dX4_put_52 : decode cX4_put 52 = .ok (.l2i, 1) := by decide +kernel
theorem dX4_put_53 : decode cX4_put 53 = .ok (.sipush 255, 3) := by decide +kernel
theorem dX4_put_56 : decode cX4_put 56 = .ok (.iand, 1) := by decide +kernel
theorem dX4_put_57 : decode cX4_put 57 = .ok (.invokevirtual 210, 3) := by decide +kernel
theorem dX4_put_60 : decode cX4_put 60 = .ok (.iinc 4 (-1), 3) := by decide +kernel
theorem dX4_put_63 : decode cX4_put 63 = .ok (.goto (-27), 3) := by decide +kernel
theorem dX4_put_66 : decode cX4_put 66 = .ok (.aload_n 0, 1) := by decide +kernel
theorem dX4_put_67 : decode cX4_put 67 = .ok (.getfield 29, 3) := by decide +kernel
theorem dX4_put_70 : decode cX4_put 70 = .ok (.getfield 92, 3) := by decide +kernel
theorem dX4_put_73 : decode cX4_put 73 = .ok (.ireturn, 1) := by decide +kernel
theorem dX4_wipe_0 : decode cX4_wipe 0 = .ok (.aload_n 0, 1) := by decide +kernel
theorem dX4_wipe_1 : decode cX4_wipe 1 = .ok (.getfield 29, 3) := by decide +kernel
theorem dX4_wipe_4 : decode cX4_wipe 4 = .ok (.getfield 92, 3) := by decide +kernel
theorem dX4_wipe_7 : decode cX4_wipe 7 = .ok (.istore_n 1, 1) := by decide +kernel
theorem dX4_wipe_8 : decode cX4_wipe 8 = .ok (.aload_n 0, 1) := by decide +kernel
theorem dX4_wipe_9 : decode cX4_wipe 9 = .ok (.getfield 29, 3) := by decide +kernel
theorem dX4_wipe_12 : decode cX4_wipe 12 = .ok (.iconst 0, 1) := by decide +kernel
theorem dX4_wipe_13 : decode cX4_wipe 13 = .ok (.putfield 92, 3) := by decide +kernel
theorem dX4_wipe_16 : decode cX4_wipe 16 = .ok (.iload_n 1, 1) := by decide +kernel
theorem dX4_wipe_17 : decode cX4_wipe 17 = .ok (.ireturn, 1) := by decide +kernel
set_option maxRecDepth 20000 in
theorem ggX4_fault_X2_parse : GoodIn wsX4_fault wsX2_parse := goodIn_r _ [6, 7, 8, 9, 10, 11, 12, 13, 14, 5, 15, 16, 17, 18, 19, 20, 21, 22, 23, 24, 25, 26, 27, 28, 29, 30, 31, 32, 33, 34, 35, 36, 37, 38, 39, 40, 41, 42, 43, 44, 45, 46, 47, 48, 49, 57, 58, 59, 60, 61, 62, 63, 64, 65, 66, 67] (by decide +kernel) (by decide +kernel)
set_option maxRecDepth 20000 in
theorem gX4_fault_X2_parse : GoodIn wsX4_fault (wsV RX4 82 RX2 yX2_parse wsX2_parse) := goodIn_app (goodIn_of _ (by decide +kernel)) ggX4_fault_X2_parse
theorem dX4_fault_0 : decode cX4_fault 0 = .ok (.aload_n 0, 1) := by decide +kernel
theorem dX4_fault_1 : decode cX4_fault 1 = .ok (.getfield 29, 3) := by decide +kernel
theorem dX4_fault_4 : decode cX4_fault 4 = .ok (.invokevirtual 82, 3) := by decide +kernel
theorem dX4_fault_7 : decode cX4_fault 7 = .ok (.ireturn, 1) := by decide +kernel
set_option maxRecDepth 20000 in
theorem ggX4_undo_X1_takeBack : GoodIn wsX4_undo wsX1_takeBack := goodIn_r _ [8, 9, 10, 11, 12, 13, 14, 15, 16, 17, 18, 19, 20, 21, 22, 23, 31, 32, 33, 34, 35, 36] (by decide +kernel) (by decide +kernel)
set_option maxRecDepth 20000 in
theorem gX4_undo_X1_takeBack : GoodIn wsX4_undo (wsV RX4 212 RX1 yX1_takeBack wsX1_takeBack) := goodIn_app (goodIn_of _ (by decide +kernel)) ggX4_undo_X1_takeBack
theorem dX4_undo_0 : decode cX4_undo 0 = .ok (.aload_n 0, 1) := by decide +kernel
theorem dX4_undo_1 : decode cX4_undo 1 = .ok (.getfield 36, 3) := by decide +kernel
theorem dX4_undo_4 : decode cX4_undo 4 = .ok (.getfield 181, 3) := by decide +kernel
theorem dX4_undo_7 : decode cX4_undo 7 = .ok (.ifCond .ne 6, 3) := by decide +kernel
theorem dX4_undo_10 : decode cX4_undo 10 = .ok (.bipush (-5), 2) := by decide +kernel
theorem dX4_undo_12 : decode cX4_undo 12 = .ok (.ireturn, 1) := by decide +kernel
theorem dX4_undo_13 : decode cX4_undo 13 = .ok (.aload_n 0, 1) := by decide +kernel
theorem dX4_undo_14 : decode cX4_undo 14 = .ok (.getfield 36, 3) := by decide +kernel
theorem dX4_undo_17 : decode cX4_undo 17 = .ok (.aload_n 0, 1) := by decide +kernel
theorem dX4_undo_18 : decode cX4_undo 18 = .ok (.getfield 10, 3) := by decide +kernel
theorem dX4_undo_21 : decode cX4_undo 21 = .ok (.invokevirtual 212, 3) := by decide +kernel
theorem dX4_undo_24 : decode cX4_undo 24 = .ok (.aload_n 0, 1) := by decide +kernel
theorem dX4_undo_25 : decode cX4_undo 25 = .ok (.getfield 36, 3) := by decide +kernel
theorem dX4_undo_28 : decode cX4_undo 28 = .ok (.getfield 181, 3) := by decide +kernel
theorem dX4_undo_31 : decode cX4_undo 31 = .ok (.ireturn, 1) := by decide +kernel
set_option maxRecDepth 20000 in
theorem ggX4_save_X4_within : GoodIn wsX4_save wsX4_within := goodIn_r _ [8] (by decide +kernel) (by decide +kernel)
set_option maxRecDepth 20000 in
theorem gX4_save_X4_within : GoodIn wsX4_save (va_wsS RX4 48 yX4_within wsX4_within) := goodIn_app (goodIn_of _ (by decide +kernel)) ggX4_save_X4_within
set_option maxRecDepth 20000 in
theorem ggX4_save_X0_copyFrom : GoodIn wsX4_save wsX0_copyFrom := goodIn_r _ [13, 14, 15, 16, 17, 18, 19, 20, 28, 29, 30] (by decide +kernel) (by decide +kernel)
set_option maxRecDepth 20000 in
theorem gX4_save_X0_copyFrom : GoodIn wsX4_save (wsV RX4 129 RX0 yX0_copyFrom wsX0_copyFrom) := goodIn_app (goodIn_of _ (by decide +kernel)) ggX4_save_X0_copyFrom
theorem dX4_save_0 : decode cX4_save 0 = .ok (.iload_n 1, 1) := by decide +kernel
theorem dX4_save_1 : decode cX4_save 1 = .ok (.iconst 0, 1) := by decide +kernel
theorem dX4_save_2 : decode cX4_save 2 = .ok (.iconst 1, 1) := by decide +kernel
theorem dX4_save_3 : decode cX4_save 3 = .ok (.invokestatic 48, 3) := by decide +kernel
theorem dX4_save_6 : decode cX4_save 6 = .ok (.ifCond .ne 6, 3) := by decide +kernel
theorem dX4_save_9 : decode cX4_save 9 = .ok (.bipush (-2), 2) := by decide +kernel
theorem dX4_save_11 : decode cX4_save 11 = .ok (.ireturn, 1) := by decide +kernel
theorem dX4_save_12 : decode cX4_save 12 = .ok (.aload_n 0, 1) := by decide +kernel
theorem dX4_save_13 : decode cX4_save 13 = .ok (.getfield 40, 3) := by decide +kernel
theorem dX4_save_16 : decode cX4_save 16 = .ok (.iload_n 1, 1) := by decide +kernel
theorem dX4_save_17 : decode cX4_save 17 = .ok (.aaload, 1) := by decide +kernel
theorem dX4_save_18 : decode cX4_save 18 = .ok (.aload_n 0, 1) := by decide +kernel
theorem dX4_save_19 : decode cX4_save 19 = .ok (.getfield 10, 3) := by decide +kernel
theorem dX4_save_22 : decode cX4_save 22 = .ok (.invokevirtual 129, 3) := by decide +kernel
theorem dX4_save_25 : decode cX4_save 25 = .ok (.aload_n 0, 1) := by decide +kernel
theorem dX4_save_26 : decode cX4_save 26 = .ok (.getfield 44, 3) := by decide +kernel
theorem dX4_save_29 : decode cX4_save 29 = .ok (.iload_n 1, 1) := by decide +kernel
theorem dX4_save_30 : decode cX4_save 30 = .ok (.iconst 1, 1) := by decide +kernel
theorem dX4_save_31 : decode cX4_save 31 = .ok (.bastore, 1) := by decide +kernel
theorem dX4_save_32 : decode cX4_save 32 = .ok (.aload_n 0, 1) := by decide +kernel
theorem dX4_save_33 : decode cX4_save 33 = .ok (.getfield 10, 3) := by decide +kernel
theorem dX4_save_36 : decode cX4_save 36 = .ok (.getfield 74, 3) := by decide +kernel
theorem dX4_save_39 : decode cX4_save 39 = .ok (.ireturn, 1) := by decide +kernel
set_option maxRecDepth 20000 in
theorem ggX4_restore_X4_within : GoodIn wsX4_restore wsX4_within := goodIn_r _ [9] (by decide +kernel) (by decide +kernel)
set_option maxRecDepth 20000 in
theorem gX4_restore_X4_within : GoodIn wsX4_restore (va_wsS RX4 48 yX4_within wsX4_within) := goodIn_app (goodIn_of _ (by decide +kernel)) ggX4_restore_X4_within
set_option maxRecDepth 20000 in
theorem ggX4_restore_X1_remember : GoodIn wsX4_restore wsX1_remember := goodIn_r _ [14, 15, 16, 17, 18, 19, 20, 21, 22, 23, 24, 25, 26, 27, 28, 29, 30, 31, 32, 33, 45, 46, 47, 42, 43, 44] (by decide +kernel) (by decide +kernel)
set_option maxRecDepth 20000 in
theorem gX4_restore_X1_remember : GoodIn wsX4_restore (wsV RX4 66 RX1 yX1_remember wsX1_remember) := goodIn_app (goodIn_of _ (by decide +kernel)) ggX4_restore_X1_remember
set_option maxRecDepth 20000 in
theorem ggX4_restore_X0_copyFrom : GoodIn wsX4_restore wsX0_copyFrom := goodIn_r _ [26, 27, 28, 29, 30, 31, 32, 33, 42, 43, 44] (by decide +kernel) (by decide +kernel)
set_option maxRecDepth 20000 in
theorem gX4_restore_X0_copyFrom : GoodIn wsX4_restore (wsV RX4 129 RX0 yX0_copyFrom wsX0_copyFrom) := goodIn_app (goodIn_of _ (by decide +kernel)) ggX4_restore_X0_copyFrom
theorem dX4_restore_0 : decode cX4_restore 0 = .ok (.iload_n 1, 1) := by decide +kernel
theorem dX4_restore_1 : decode cX4_restore 1 = .ok (.iconst 0, 1) := by decide +kernel
theorem dX4_restore_2 : decode cX4_restore 2 = .ok (.iconst 1, 1) := by decide +kernel
theorem dX4_restore_3 : decode cX4_restore 3 = .ok (.invokestatic 48, 3) := by decide +kernel
theorem dX4_restore_6 : decode cX4_restore 6 = .ok (.ifCond .ne 6, 3) := by decide +kernel
theorem dX4_restore_9 : decode cX4_restore 9 = .ok (.bipush (-2), 2) := by decide +kernel
theorem dX4_restore_11 : decode cX4_restore 11 = .ok (.ireturn, 1) := by decide +kernel
theorem dX4_restore_12 : decode cX4_restore 12 = .ok (.aload_n 0, 1) := by decide +kernel
theorem dX4_restore_13 : decode cX4_restore 13 = .ok (.getfield 44, 3) := by decide +kernel
theorem dX4_restore_16 : decode cX4_restore 16 = .ok (.iload_n 1, 1) := by decide +kernel
theorem dX4_restore_17 : decode cX4_restore 17 = .ok (.baload, 1) := by decide +kernel
theorem dX4_restore_18 : decode cX4_restore 18 = .ok (.ifCond .ne 6, 3) := by decide +kernel
theorem dX4_restore_21 : decode cX4_restore 21 = .ok (.bipush (-5), 2) := by decide +kernel
theorem dX4_restore_23 : decode cX4_restore 23 = .ok (.ireturn, 1) := by decide +kernel
theorem dX4_restore_24 : decode cX4_restore 24 = .ok (.aload_n 0, 1) := by decide +kernel
theorem dX4_restore_25 : decode cX4_restore 25 = .ok (.getfield 36, 3) := by decide +kernel
theorem dX4_restore_28 : decode cX4_restore 28 = .ok (.aload_n 0, 1) := by decide +kernel
theorem dX4_restore_29 : decode cX4_restore 29 = .ok (.getfield 10, 3) := by decide +kernel
theorem dX4_restore_32 : decode cX4_restore 32 = .ok (.invokevirtual 66, 3) := by decide +kernel
theorem dX4_restore_35 : decode cX4_restore 35 = .ok (.aload_n 0, 1) := by decide +kernel
theorem dX4_restore_36 : decode cX4_restore 36 = .ok (.getfield 10, 3) := by decide +kernel
theorem dX4_restore_39 : decode cX4_restore 39 = .ok (.aload_n 0, 1) := by decide +kernel
theorem dX4_restore_40 : decode cX4_restore 40 = .ok (.getfield 40, 3) := by decide +kernel
theorem dX4_restore_43 : decode cX4_restore 43 = .ok (.iload_n 1, 1) := by decide +kernel
theorem dX4_restore_44 : decode cX4_restore 44 = .ok (.aaload, 1) := by decide +kernel
theorem dX4_restore_45 : decode cX4_restore 45 = .ok (.invokevirtual 129, 3) := by decide +kernel
theorem dX4_restore_48 : decode cX4_restore 48 = .ok (.aload_n 0, 1) := by decide +kernel
theorem dX4_restore_49 : decode cX4_restore 49 = .ok (.getfield 10, 3) := by decide +kernel
theorem dX4_restore_52 : decode cX4_restore 52 = .ok (.getfield 74, 3) := by decide +kernel
theorem dX4_restore_55 : decode cX4_restore 55 = .ok (.ireturn, 1) := by decide +kernel
theorem dX4_within_0 : decode cX4_within 0 = .ok (.iload_n 0, 1) := by decide +kernel
theorem dX4_within_1 : decode cX4_within 1 = .ok (.iload_n 1, 1) := by decide +kernel
theorem dX4_within_2 : decode cX4_within 2 = .ok (.if_icmp .lt 12, 3) := by decide +kernel
theorem dX4_within_5 : decode cX4_within 5 = .ok (.iload_n 0, 1) := by decide +kernel
theorem dX4_within_6 : decode cX4_within 6 = .ok (.iload_n 2, 1) := by decide +kernel
theorem dX4_within_7 : decode cX4_within 7 = .ok (.if_icmp .gt 7, 3) := by decide +kernel
theorem dX4_within_10 : decode cX4_within 10 = .ok (.iconst 1, 1) := by decide +kernel
theorem dX4_within_11 : decode cX4_within 11 = .ok (.goto 4, 3) := by decide +kernel
theorem dX4_within_14 : decode cX4_within 14 = .ok (.iconst 0, 1) := by decide +kernel
theorem dX4_within_15 : decode cX4_within 15 = .ok (.ireturn, 1) := by decide +kernel
set_option maxRecDepth 20000 in
theorem ggX4_isJob_X4_within : GoodIn wsX4_isJob wsX4_within := goodIn_r _ [6] (by decide +kernel) (by decide +kernel)
set_option maxRecDepth 20000 in
theorem gX4_isJob_X4_within : GoodIn wsX4_isJob (va_wsS RX4 48 yX4_within wsX4_within) := goodIn_app (goodIn_of _ (by decide +kernel)) ggX4_isJob_X4_within
theorem dX4_isJob_0 : decode cX4_isJob 0 = .ok (.iload_n 1, 1) := by decide +kernel
theorem dX4_isJob_1 : decode cX4_isJob 1 = .ok (.iconst 0, 1) := by decide +kernel
theorem dX4_isJob_2 : decode cX4_isJob 2 = .ok (.aload_n 0, 1) := by decide +kernel
theorem dX4_isJob_3 : decode cX4_isJob 3 = .ok (.getfield 10, 3) := by decide +kernel
theorem dX4_isJob_6 : decode cX4_isJob 6 = .ok (.getfield 74, 3) := by decide +kernel
theorem dX4_isJob_9 : decode cX4_isJob 9 = .ok (.iconst 1, 1) := by decide +kernel
theorem dX4_isJob_10 : decode cX4_isJob 10 = .ok (.isub, 1) := by decide +kernel
theorem dX4_isJob_11 : decode cX4_isJob 11 = .ok (.invokestatic 48, 3) := by decide +kernel
theorem dX4_isJob_14 : decode cX4_isJob 14 = .ok (.ireturn, 1) := by decide +kernel
theorem dX4_racksFor_0 : decode cX4_racksFor 0 = .ok (.iload_n 1, 1) := by decide +kernel
theorem dX4_racksFor_1 : decode cX4_racksFor 1 = .ok (.iconst 1, 1) := by decide +kernel
theorem dX4_racksFor_2 : decode cX4_racksFor 2 = .ok (.if_icmp .ge 7, 3) := by decide +kernel
theorem dX4_racksFor_5 : decode cX4_racksFor 5 = .ok (.iload_n 0, 1) := by decide +kernel
theorem dX4_racksFor_6 : decode cX4_racksFor 6 = .ok (.goto 10, 3) := by decide +kernel
theorem dX4_racksFor_9 : decode cX4_racksFor 9 = .ok (.iload_n 0, 1) := by decide +kernel
theorem dX4_racksFor_10 : decode cX4_racksFor 10 = .ok (.iload_n 1, 1) := by decide +kernel
theorem dX4_racksFor_11 : decode cX4_racksFor 11 = .ok (.iadd, 1) := by decide +kernel
theorem dX4_racksFor_12 : decode cX4_racksFor 12 = .ok (.iconst 1, 1) := by decide +kernel
theorem dX4_racksFor_13 : decode cX4_racksFor 13 = .ok (.isub, 1) := by decide +kernel
theorem dX4_racksFor_14 : decode cX4_racksFor 14 = .ok (.iload_n 1, 1) := by decide +kernel
theorem dX4_racksFor_15 : decode cX4_racksFor 15 = .ok (.idiv, 1) := by decide +kernel
theorem dX4_racksFor_16 : decode cX4_racksFor 16 = .ok (.ireturn, 1) := by decide +kernel
set_option maxRecDepth 20000 in
theorem ggX4_lateSumOf_X3_print : GoodIn wsX4_lateSumOf wsX3_print := goodIn_r _ [8, 9, 10, 11, 12, 13, 7, 14, 15, 16, 17, 18, 19, 20, 21, 22, 23, 24, 25, 26, 27, 28, 29, 30, 31, 32, 33, 34, 35, 36, 37, 38, 39, 40, 41, 42, 43, 44, 45, 46, 47, 48, 49, 50, 51, 52, 53, 54, 55, 56, 57, 58, 59, 67, 68, 69, 70, 71, 72, 73, 74, 75, 76, 77, 78, 79, 80, 81, 82, 83, 84, 85, 86, 87] (by decide +kernel) (by decide +kernel)
set_option maxRecDepth 20000 in
theorem gX4_lateSumOf_X3_print : GoodIn wsX4_lateSumOf (wsV RX4 115 RX3 yX3_print wsX3_print) := goodIn_app (goodIn_of _ (by decide +kernel)) ggX4_lateSumOf_X3_print
theorem dX4_lateSumOf_0 : decode cX4_lateSumOf 0 = .ok (.aload_n 0, 1) := by decide +kernel
theorem dX4_lateSumOf_1 : decode cX4_lateSumOf 1 = .ok (.getfield 22, 3) := by decide +kernel
theorem dX4_lateSumOf_4 : decode cX4_lateSumOf 4 = .ok (.aload_n 1, 1) := by decide +kernel
theorem dX4_lateSumOf_5 : decode cX4_lateSumOf 5 = .ok (.aload_n 1, 1) := by decide +kernel
theorem dX4_lateSumOf_6 : decode cX4_lateSumOf 6 = .ok (.getfield 59, 3) := by decide +kernel
theorem dX4_lateSumOf_9 : decode cX4_lateSumOf 9 = .ok (.iconst 5, 1) := by decide +kernel
theorem dX4_lateSumOf_10 : decode cX4_lateSumOf 10 = .ok (.iaload, 1) := by decide +kernel
theorem dX4_lateSumOf_11 : decode cX4_lateSumOf 11 = .ok (.invokevirtual 115, 3) := by decide +kernel
theorem dX4_lateSumOf_14 : decode cX4_lateSumOf 14 = .ok (.aload_n 0, 1) := by decide +kernel
theorem dX4_lateSumOf_15 : decode cX4_lateSumOf 15 = .ok (.getfield 22, 3) := by decide +kernel
theorem dX4_lateSumOf_18 : decode cX4_lateSumOf 18 = .ok (.getfield 163, 3) := by decide +kernel
theorem dX4_lateSumOf_21 : decode cX4_lateSumOf 21 = .ok (.ireturn, 1) := by decide +kernel
set_option maxRecDepth 20000 in
theorem ggX4_lateSumIfExchanged_X0_exchange : GoodIn wsX4_lateSumIfExchanged wsX0_exchange := goodIn_r _ [6, 7, 78, 79, 80] (by decide +kernel) (by decide +kernel)
set_option maxRecDepth 20000 in
theorem gX4_lateSumIfExchanged_X0_exchange : GoodIn wsX4_lateSumIfExchanged (wsV RX4 215 RX0 yX0_exchange wsX0_exchange) := goodIn_app (goodIn_of _ (by decide +kernel)) ggX4_lateSumIfExchanged_X0_exchange
set_option maxRecDepth 20000 in
theorem ggX4_lateSumIfExchanged_X4_lateSumOf : GoodIn wsX4_lateSumIfExchanged wsX4_lateSumOf := goodIn_r _ [12, 13, 14, 15, 16, 17, 18, 19, 20, 21, 22, 23, 24, 25, 26, 27, 28, 29, 30, 31, 32, 33, 34, 35, 36, 37, 38, 39, 40, 41, 42, 43, 44, 45, 46, 47, 48, 49, 50, 51, 52, 53, 54, 55, 11, 56, 57, 58, 59, 60, 61, 62, 63, 64, 65, 66, 67, 68, 69, 70, 71, 72, 73, 74, 75, 76, 77, 78, 79, 80, 81, 82, 83, 84, 85, 86, 87, 88, 89, 90, 91, 92, 93, 94, 95, 96, 97, 98] (by decide +kernel) (by decide +kernel)
set_option maxRecDepth 20000 in
theorem gX4_lateSumIfExchanged_X4_lateSumOf : GoodIn wsX4_lateSumIfExchanged (wsV RX4 107 RX4 yX4_lateSumOf wsX4_lateSumOf) := goodIn_app (goodIn_of _ (by decide +kernel)) ggX4_lateSumIfExchanged_X4_lateSumOf
theorem dX4_lateSumIfExchanged_0 : decode cX4_lateSumIfExchanged 0 = .ok (.aload_n 0, 1) := by decide +kernel
theorem dX4_lateSumIfExchanged_1 : decode cX4_lateSumIfExchanged 1 = .ok (.getfield 16, 3) := by decide +kernel
theorem dX4_lateSumIfExchanged_4 : decode cX4_lateSumIfExchanged 4 = .ok (.iload_n 1, 1) := by decide +kernel
theorem dX4_lateSumIfExchanged_5 : decode cX4_lateSumIfExchanged 5 = .ok (.iload_n 2, 1) := by decide +kernel
theorem dX4_lateSumIfExchanged_6 : decode cX4_lateSumIfExchanged 6 = .ok (.invokevirtual 215, 3) := by decide +kernel
theorem dX4_lateSumIfExchanged_9 : decode cX4_lateSumIfExchanged 9 = .ok (.aload_n 0, 1) := by decide +kernel
theorem dX4_lateSumIfExchanged_10 : decode cX4_lateSumIfExchanged 10 = .ok (.aload_n 0, 1) := by decide +kernel
theorem dX4_lateSumIfExchanged_11 : decode cX4_lateSumIfExchanged 11 = .ok (.getfield 16, 3) := by decide +kernel
theorem dX4_lateSumIfExchanged_14 : decode cX4_lateSumIfExchanged 14 = .ok (.invokevirtual 107, 3) := by decide +kernel
theorem dX4_lateSumIfExchanged_17 : decode cX4_lateSumIfExchanged 17 = .ok (.istore_n 3, 1) := by decide +kernel
theorem dX4_lateSumIfExchanged_18 : decode cX4_lateSumIfExchanged 18 = .ok (.aload_n 0, 1) := by decide +kernel
theorem dX4_lateSumIfExchanged_19 : decode cX4_lateSumIfExchanged 19 = .ok (.getfield 16, 3) := by decide +kernel
theorem dX4_lateSumIfExchanged_22 : decode cX4_lateSumIfExchanged 22 = .ok (.iload_n 1, 1) := by decide +kernel
theorem dX4_lateSumIfExchanged_23 : decode cX4_lateSumIfExchanged 23 = .ok (.iload_n 2, 1) := by decide +kernel
theorem dX4_lateSumIfExchanged_24 : decode cX4_lateSumIfExchanged 24 = .ok (.invokevirtual 215, 3) := by decide +kernel
theorem dX4_lateSumIfExchanged_27 : decode cX4_lateSumIfExchanged 27 = .ok (.iload_n 3, 1) := by decide +kernel
theorem dX4_lateSumIfExchanged_28 : decode cX4_lateSumIfExchanged 28 = .ok (.ireturn, 1) := by decide +kernel
set_option maxRecDepth 20000 in
theorem ggX4_lateSumIfFirst_X0_shift : GoodIn wsX4_lateSumIfFirst wsX0_shift := goodIn_r _ [6, 7, 78, 79, 80] (by decide +kernel) (by decide +kernel)
set_option maxRecDepth 20000 in
theorem gX4_lateSumIfFirst_X0_shift : GoodIn wsX4_lateSumIfFirst (wsV RX4 103 RX0 yX0_shift wsX0_shift) := goodIn_app (goodIn_of _ (by decide +kernel)) ggX4_lateSumIfFirst_X0_shift
set_option maxRecDepth 20000 in
theorem ggX4_lateSumIfFirst_X4_lateSumOf : GoodIn wsX4_lateSumIfFirst wsX4_lateSumOf := goodIn_r _ [12, 13, 14, 15, 16, 17, 18, 19, 20, 21, 22, 23, 24, 25, 26, 27, 28, 29, 30, 31, 32, 33, 34, 35, 36, 37, 38, 39, 40, 41, 42, 43, 44, 45, 46, 47, 48, 49, 50, 51, 52, 53, 54, 55, 11, 56, 57, 58, 59, 60, 61, 62, 63, 64, 65, 66, 67, 68, 69, 70, 71, 72, 73, 74, 75, 76, 77, 78, 79, 80, 81, 82, 83, 84, 85, 86, 87, 88, 89, 90, 91, 92, 93, 94, 95, 96, 97, 98] (by decide +kernel) (by decide +kernel)
set_option maxRecDepth 20000 in
theorem gX4_lateSumIfFirst_X4_lateSumOf : GoodIn wsX4_lateSumIfFirst (wsV RX4 107 RX4 yX4_lateSumOf wsX4_lateSumOf) := goodIn_app (goodIn_of _ (by decide +kernel)) ggX4_lateSumIfFirst_X4_lateSumOf
theorem dX4_lateSumIfFirst_0 : decode cX4_lateSumIfFirst 0 = .ok (.aload_n 0, 1) := by decide +kernel
theorem dX4_lateSumIfFirst_1 : decode cX4_lateSumIfFirst 1 = .ok (.getfield 16, 3) := by decide +kernel
theorem dX4_lateSumIfFirst_4 : decode cX4_lateSumIfFirst 4 = .ok (.iload_n 1, 1) := by decide +kernel
theorem dX4_lateSumIfFirst_5 : decode cX4_lateSumIfFirst 5 = .ok (.iconst 0, 1) := by decide +kernel
theorem dX4_lateSumIfFirst_6 : decode cX4_lateSumIfFirst 6 = .ok (.invokevirtual 103, 3) := by decide +kernel
theorem dX4_lateSumIfFirst_9 : decode cX4_lateSumIfFirst 9 = .ok (.aload_n 0, 1) := by decide +kernel
theorem dX4_lateSumIfFirst_10 : decode cX4_lateSumIfFirst 10 = .ok (.aload_n 0, 1) := by decide +kernel
theorem dX4_lateSumIfFirst_11 : decode cX4_lateSumIfFirst 11 = .ok (.getfield 16, 3) := by decide +kernel
theorem dX4_lateSumIfFirst_14 : decode cX4_lateSumIfFirst 14 = .ok (.invokevirtual 107, 3) := by decide +kernel
theorem dX4_lateSumIfFirst_17 : decode cX4_lateSumIfFirst 17 = .ok (.istore_n 2, 1) := by decide +kernel
theorem dX4_lateSumIfFirst_18 : decode cX4_lateSumIfFirst 18 = .ok (.aload_n 0, 1) := by decide +kernel
theorem dX4_lateSumIfFirst_19 : decode cX4_lateSumIfFirst 19 = .ok (.getfield 16, 3) := by decide +kernel
theorem dX4_lateSumIfFirst_22 : decode cX4_lateSumIfFirst 22 = .ok (.iconst 0, 1) := by decide +kernel
theorem dX4_lateSumIfFirst_23 : decode cX4_lateSumIfFirst 23 = .ok (.iload_n 1, 1) := by decide +kernel
theorem dX4_lateSumIfFirst_24 : decode cX4_lateSumIfFirst 24 = .ok (.invokevirtual 103, 3) := by decide +kernel
theorem dX4_lateSumIfFirst_27 : decode cX4_lateSumIfFirst 27 = .ok (.iload_n 2, 1) := by decide +kernel
theorem dX4_lateSumIfFirst_28 : decode cX4_lateSumIfFirst 28 = .ok (.ireturn, 1) := by decide +kernel
set_option maxRecDepth 20000 in
theorem ggX4_charactersIn_X4_within : GoodIn wsX4_charactersIn wsX4_within := goodIn_r _ [5] (by decide +kernel) (by decide +kernel)
set_option maxRecDepth 20000 in
theorem gX4_charactersIn_X4_within : GoodIn wsX4_charactersIn (va_wsS RX4 48 yX4_within wsX4_within) := goodIn_app (goodIn_of _ (by decide +kernel)) ggX4_charactersIn_X4_within
theorem dX4_charactersIn_0 : decode cX4_charactersIn 0 = .ok (.lload_n 0, 1) := by decide +kernel
theorem dX4_charactersIn_1 : decode cX4_charactersIn 1 = .ok (.lstore_n 2, 1) := by decide +kernel
theorem dX4_charactersIn_2 : decode cX4_charactersIn 2 = .ok (.iconst 0, 1) := by decide +kernel
theorem dX4_charactersIn_3 : decode cX4_charactersIn 3 = .ok (.istore 4, 2) := by decide +kernel
theorem dX4_charactersIn_5 : decode cX4_charactersIn 5 = .ok (.iload 4, 2) := by decide +kernel
theorem dX4_charactersIn_7 : decode cX4_charactersIn 7 = .ok (.bipush 8, 2) := by decide +kernel
theorem dX4_charactersIn_9 : decode cX4_charactersIn 9 = .ok (.if_icmp .ge 39, 3) := by decide +kernel
theorem dX4_charactersIn_12 : decode cX4_charactersIn 12 = .ok (.lload_n 2, 1) := by decide +kernel
theorem dX4_charactersIn_13 : decode cX4_charactersIn 13 = .ok (.lconst 0, 1) := by decide +kernel
theorem dX4_charactersIn_14 : decode cX4_charactersIn 14 = .ok (.lcmp, 1) := by decide +kernel
theorem dX4_charactersIn_15 : decode cX4_charactersIn 15 = .ok (.ifCond .eq 33, 3) := by decide +kernel
theorem dX4_charactersIn_18 : decode cX4_charactersIn 18 = .ok (.lload_n 2, 1) := by decide +kernel
theorem dX4_charactersIn_19 : decode cX4_charactersIn 19 = .ok (.ldc2_w 218, 3) := by decide +kernel
theorem dX4_charactersIn_22 : decode cX4_charactersIn 22 = .ok (.land, 1) := by decide +kernel
theorem dX4_charactersIn_23 : decode cX4_charactersIn 23 = .ok (.l2i, 1) := by decide +kernel
theorem dX4_charactersIn_24 : decode cX4_charactersIn 24 = .ok (.bipush 33, 2) := by decide +kernel
theorem dX4_charactersIn_26 : decode cX4_charactersIn 26 = .ok (.bipush 126, 2) := by decide +kernel
theorem dX4_charactersIn_28 : decode cX4_charactersIn 28 = .ok (.invokestatic 48, 3) := by decide +kernel
theorem dX4_charactersIn_31 : decode cX4_charactersIn 31 = .ok (.ifCond .ne 6, 3) := by decide +kernel
theorem dX4_charactersIn_34 : decode cX4_charactersIn 34 = .ok (.bipush (-2), 2) := by decide +kernel
theorem dX4_charactersIn_36 : decode cX4_charactersIn 36 = .ok (.ireturn, 1) := by decide +kernel
theorem dX4_charactersIn_37 : decode cX4_charactersIn 37 = .ok (.lload_n 2, 1) := by decide +kernel
theorem dX4_charactersIn_38 : decode cX4_charactersIn 38 = .ok (.bipush 8, 2) := by decide +kernel
theorem dX4_charactersIn_40 : decode cX4_charactersIn 40 = .ok (.lushr, 1) := by decide +kernel
theorem dX4_charactersIn_41 : decode cX4_charactersIn 41 = .ok (.lstore_n 2, 1) := by decide +kernel
theorem dX4_charactersIn_42 : decode cX4_charactersIn 42 = .ok (.iinc 4 1, 3) := by decide +kernel
theorem dX4_charactersIn_45 : decode cX4_charactersIn 45 = .ok (.goto (-40), 3) := by decide +kernel
theorem dX4_charactersIn_48 : decode cX4_charactersIn 48 = .ok (.iload 4, 2) := by decide +kernel
theorem dX4_charactersIn_50 : decode cX4_charactersIn 50 = .ok (.ifCond .ne 8, 3) := by decide +kernel
theorem dX4_charactersIn_53 : decode cX4_charactersIn 53 = .ok (.bipush (-2), 2) := by decide +kernel
theorem dX4_charactersIn_55 : decode cX4_charactersIn 55 = .ok (.goto 5, 3) := by decide +kernel
theorem dX4_charactersIn_58 : decode cX4_charactersIn 58 = .ok (.iload 4, 2) := by decide +kernel
theorem dX4_charactersIn_60 : decode cX4_charactersIn 60 = .ok (.ireturn, 1) := by decide +kernel
