theorem dX5_init_0 : decode cX5_init 0 = .ok (.aload_n 0, 1) := by decide +kernel
theorem dX5_init_1 : decode cX5_init 1 = .ok (.invokespecial 1, 3) := by decide +kernel
theorem dX5_init_4 : decode cX5_init 4 = .ok (.aload_n 0, 1) := by decide +kernel
theorem dX5_init_5 : decode cX5_init 5 = .ok (.bipush 56, 2) := by decide +kernel
theorem dX5_init_7 : decode cX5_init 7 = .ok (.newarray .int, 2) := by decide +kernel
theorem dX5_init_9 : decode cX5_init 9 = .ok (.putfield 7, 3) := by decide +kernel
theorem dX5_init_12 : decode cX5_init 12 = .ok (.aload_n 0, 1) := by decide +kernel
theorem dX5_init_13 : decode cX5_init 13 = .ok (.bipush 56, 2) := by decide +kernel
theorem dX5_init_15 : decode cX5_init 15 = .ok (.newarray .int, 2) := by decide +kernel
theorem dX5_init_17 : decode cX5_init 17 = .ok (.putfield 13, 3) := by decide +kernel
theorem dX5_init_20 : decode cX5_init 20 = .ok (.aload_n 0, 1) := by decide +kernel
theorem dX5_init_21 : decode cX5_init 21 = .ok (.sipush 336, 3) := by decide +kernel
theorem dX5_init_24 : decode cX5_init 24 = .ok (.newarray .int, 2) := by decide +kernel
theorem dX5_init_26 : decode cX5_init 26 = .ok (.putfield 16, 3) := by decide +kernel
theorem dX5_init_29 : decode cX5_init 29 = .ok (.aload_n 0, 1) := by decide +kernel
theorem dX5_init_30 : decode cX5_init 30 = .ok (.bipush 112, 2) := by decide +kernel
theorem dX5_init_32 : decode cX5_init 32 = .ok (.newarray .int, 2) := by decide +kernel
theorem dX5_init_34 : decode cX5_init 34 = .ok (.putfield 19, 3) := by decide +kernel
theorem dX5_init_37 : decode cX5_init 37 = .ok (.aload_n 0, 1) := by decide +kernel
theorem dX5_init_38 : decode cX5_init 38 = .ok (.iconst 2, 1) := by decide +kernel
theorem dX5_init_39 : decode cX5_init 39 = .ok (.newarray .int, 2) := by decide +kernel
theorem dX5_init_41 : decode cX5_init 41 = .ok (.putfield 22, 3) := by decide +kernel
theorem dX5_init_44 : decode cX5_init 44 = .ok (.aload_n 0, 1) := by decide +kernel
theorem dX5_init_45 : decode cX5_init 45 = .ok (.bipush 12, 2) := by decide +kernel
theorem dX5_init_47 : decode cX5_init 47 = .ok (.newarray .int, 2) := by decide +kernel
theorem dX5_init_49 : decode cX5_init 49 = .ok (.putfield 25, 3) := by decide +kernel
theorem dX5_init_52 : decode cX5_init 52 = .ok (.aload_n 0, 1) := by decide +kernel
theorem dX5_init_53 : decode cX5_init 53 = .ok (.bipush 12, 2) := by decide +kernel
theorem dX5_init_55 : decode cX5_init 55 = .ok (.newarray .int, 2) := by decide +kernel
theorem dX5_init_57 : decode cX5_init 57 = .ok (.putfield 28, 3) := by decide +kernel
theorem dX5_init_60 : decode cX5_init 60 = .ok (.aload_n 0, 1) := by decide +kernel
theorem dX5_init_61 : decode cX5_init 61 = .ok (.bipush 12, 2) := by decide +kernel
theorem dX5_init_63 : decode cX5_init 63 = .ok (.newarray .int, 2) := by decide +kernel
theorem dX5_init_65 : decode cX5_init 65 = .ok (.putfield 31, 3) := by decide +kernel
theorem dX5_init_68 : decode cX5_init 68 = .ok (.aload_n 0, 1) := by decide +kernel
theorem dX5_init_69 : decode cX5_init 69 = .ok (.bipush 60, 2) := by decide +kernel
theorem dX5_init_71 : decode cX5_init 71 = .ok (.newarray .int, 2) := by decide +kernel
theorem dX5_init_73 : decode cX5_init 73 = .ok (.putfield 34, 3) := by decide +kernel
theorem dX5_init_76 : decode cX5_init 76 = .ok (.aload_n 0, 1) := by decide +kernel
theorem dX5_init_77 : decode cX5_init 77 = .ok (.bipush 60, 2) := by decide +kernel
theorem dX5_init_79 : decode cX5_init 79 = .ok (.newarray .int, 2) := by decide +kernel
theorem dX5_init_81 : decode cX5_init 81 = .ok (.putfield 37, 3) := by decide +kernel
theorem dX5_init_84 : decode cX5_init 84 = .ok (.aload_n 0, 1) := by decide +kernel
theorem dX5_init_85 : decode cX5_init 85 = .ok (.getfield 7, 3) := by decide +kernel
theorem dX5_init_88 : decode cX5_init 88 = .ok (.iconst 0, 1) := by decide +kernel
theorem dX5_init_89 : decode cX5_init 89 = .ok (.bipush 10, 2) := by decide +kernel
theorem dX5_init_91 : decode cX5_init 91 = .ok (.iastore, 1) := by decide +kernel
theorem dX5_init_92 : decode cX5_init 92 = .ok (.aload_n 0, 1) := by decide +kernel
theorem dX5_init_93 : decode cX5_init 93 = .ok (.getfield 7, 3) := by decide +kernel
theorem dX5_init_96 : decode cX5_init 96 = .ok (.iconst 1, 1) := by decide +kernel
theorem dX5_init_97 : decode cX5_init 97 = .ok (.bipush 15, 2) := by decide +kernel
theorem dX5_init_99 : decode cX5_init 99 = .ok (.iastore, 1) := by decide +kernel
theorem dX5_init_100 : decode cX5_init 100 = .ok (.aload_n 0, 1) := by decide +kernel
theorem dX5_init_101 : decode cX5_init 101 = .ok (.getfield 7, 3) := by decide +kernel
theorem dX5_init_104 : decode cX5_init 104 = .ok (.iconst 2, 1) := by decide +kernel
theorem dX5_init_105 : decode cX5_init 105 = .ok (.iconst 2, 1) := by decide +kernel
theorem dX5_init_106 : decode cX5_init 106 = .ok (.iastore, 1) := by decide +kernel
theorem dX5_init_107 : decode cX5_init 107 = .ok (.aload_n 0, 1) := by decide +kernel
theorem dX5_init_108 : decode cX5_init 108 = .ok (.getfield 7, 3) := by decide +kernel
theorem dX5_init_111 : decode cX5_init 111 = .ok (.iconst 3, 1) := by decide +kernel
theorem dX5_init_112 : decode cX5_init 112 = .ok (.iconst 4, 1) := by decide +kernel
theorem dX5_init_113 : decode cX5_init 113 = .ok (.iastore, 1) := by decide +kernel
theorem dX5_init_114 : decode cX5_init 114 = .ok (.aload_n 0, 1) := by decide +kernel
theorem dX5_init_115 : decode cX5_init 115 = .ok (.getfield 7, 3) := by decide +kernel
theorem dX5_init_118 : decode cX5_init 118 = .ok (.iconst 4, 1) := by decide +kernel
theorem dX5_init_119 : decode cX5_init 119 = .ok (.bipush 60, 2) := by decide +kernel
theorem dX5_init_121 : decode cX5_init 121 = .ok (.iastore, 1) := by decide +kernel
theorem dX5_init_122 : decode cX5_init 122 = .ok (.aload_n 0, 1) := by decide +kernel
theorem dX5_init_123 : decode cX5_init 123 = .ok (.getfield 7, 3) := by decide +kernel
theorem dX5_init_126 : decode cX5_init 126 = .ok (.iconst 5, 1) := by decide +kernel
theorem dX5_init_127 : decode cX5_init 127 = .ok (.bipush 8, 2) := by decide +kernel
theorem dX5_init_129 : decode cX5_init 129 = .ok (.iastore, 1) := by decide +kernel
theorem dX5_init_130 : decode cX5_init 130 = .ok (.aload_n 0, 1) := by decide +kernel
theorem dX5_init_131 : decode cX5_init 131 = .ok (.getfield 7, 3) := by decide +kernel
theorem dX5_init_134 : decode cX5_init 134 = .ok (.bipush 6, 2) := by decide +kernel
theorem dX5_init_136 : decode cX5_init 136 = .ok (.iconst 5, 1) := by decide +kernel
theorem dX5_init_137 : decode cX5_init 137 = .ok (.iastore, 1) := by decide +kernel
theorem dX5_init_138 : decode cX5_init 138 = .ok (.return_, 1) := by decide +kernel
theorem dX5_in_0 : decode cX5_in 0 = .ok (.lload_n 0, 1) := by decide +kernel
theorem dX5_in_1 : decode cX5_in 1 = .ok (.lload_n 2, 1) := by decide +kernel
theorem dX5_in_2 : decode cX5_in 2 = .ok (.lcmp, 1) := by decide +kernel
theorem dX5_in_3 : decode cX5_in 3 = .ok (.ifCond .lt 14, 3) := by decide +kernel
theorem dX5_in_6 : decode cX5_in 6 = .ok (.lload_n 0, 1) := by decide +kernel
theorem dX5_in_7 : decode cX5_in 7 = .ok (.lload 4, 2) := by decide +kernel
theorem dX5_in_9 : decode cX5_in 9 = .ok (.lcmp, 1) := by decide +kernel
theorem dX5_in_10 : decode cX5_in 10 = .ok (.ifCond .gt 7, 3) := by decide +kernel
theorem dX5_in_13 : decode cX5_in 13 = .ok (.iconst 1, 1) := by decide +kernel
theorem dX5_in_14 : decode cX5_in 14 = .ok (.goto 4, 3) := by decide +kernel
theorem dX5_in_17 : decode cX5_in 17 = .ok (.iconst 0, 1) := by decide +kernel
theorem dX5_in_18 : decode cX5_in 18 = .ok (.ireturn, 1) := by decide +kernel
theorem dX5_changes_0 : decode cX5_changes 0 = .ok (.aload_n 0, 1) := by decide +kernel
theorem dX5_changes_1 : decode cX5_changes 1 = .ok (.getfield 40, 3) := by decide +kernel
theorem dX5_changes_4 : decode cX5_changes 4 = .ok (.bipush 6, 2) := by decide +kernel
theorem dX5_changes_6 : decode cX5_changes 6 = .ok (.if_icmp .ne 43, 3) := by decide +kernel
theorem dX5_changes_9 : decode cX5_changes 9 = .ok (.iconst 0, 1) := by decide +kernel
theorem dX5_changes_10 : decode cX5_changes 10 = .ok (.istore_n 1, 1) := by decide +kernel
theorem dX5_changes_11 : decode cX5_changes 11 = .ok (.iload_n 1, 1) := by decide +kernel
theorem dX5_changes_12 : decode cX5_changes 12 = .ok (.sipush 280, 3) := by decide +kernel
theorem dX5_changes_15 : decode cX5_changes 15 = .ok (.if_icmp .ge 24, 3) := by decide +kernel
theorem dX5_changes_18 : decode cX5_changes 18 = .ok (.aload_n 0, 1) := by decide +kernel
theorem dX5_changes_19 : decode cX5_changes 19 = .ok (.getfield 16, 3) := by decide +kernel
theorem dX5_changes_22 : decode cX5_changes 22 = .ok (.iload_n 1, 1) := by decide +kernel
theorem dX5_changes_23 : decode cX5_changes 23 = .ok (.aload_n 0, 1) := by decide +kernel
theorem dX5_changes_24 : decode cX5_changes 24 = .ok (.getfield 16, 3) := by decide +kernel
theorem dX5_changes_27 : decode cX5_changes 27 = .ok (.iload_n 1, 1) := by decide +kernel
theorem dX5_changes_28 : decode cX5_changes 28 = .ok (.bipush 56, 2) := by decide +kernel
theorem dX5_changes_30 : decode cX5_changes 30 = .ok (.iadd, 1) := by decide +kernel
theorem dX5_changes_31 : decode cX5_changes 31 = .ok (.iaload, 1) := by decide +kernel
theorem dX5_changes_32 : decode cX5_changes 32 = .ok (.iastore, 1) := by decide +kernel
theorem dX5_changes_33 : decode cX5_changes 33 = .ok (.iinc 1 1, 3) := by decide +kernel
theorem dX5_changes_36 : decode cX5_changes 36 = .ok (.goto (-25), 3) := by decide +kernel
theorem dX5_changes_39 : decode cX5_changes 39 = .ok (.aload_n 0, 1) := by decide +kernel
theorem dX5_changes_40 : decode cX5_changes 40 = .ok (.dup, 1) := by decide +kernel
theorem dX5_changes_41 : decode cX5_changes 41 = .ok (.getfield 40, 3) := by decide +kernel
theorem dX5_changes_44 : decode cX5_changes 44 = .ok (.iconst 1, 1) := by decide +kernel
theorem dX5_changes_45 : decode cX5_changes 45 = .ok (.isub, 1) := by decide +kernel
theorem dX5_changes_46 : decode cX5_changes 46 = .ok (.putfield 40, 3) := by decide +kernel
theorem dX5_changes_49 : decode cX5_changes 49 = .ok (.iconst 0, 1) := by decide +kernel
theorem dX5_changes_50 : decode cX5_changes 50 = .ok (.istore_n 1, 1) := by decide +kernel
theorem dX5_changes_51 : decode cX5_changes 51 = .ok (.iload_n 1, 1) := by decide +kernel
theorem dX5_changes_52 : decode cX5_changes 52 = .ok (.bipush 56, 2) := by decide +kernel
theorem dX5_changes_54 : decode cX5_changes 54 = .ok (.if_icmp .ge 29, 3) := by decide +kernel
theorem dX5_changes_57 : decode cX5_changes 57 = .ok (.aload_n 0, 1) := by decide +kernel
theorem dX5_changes_58 : decode cX5_changes 58 = .ok (.getfield 16, 3) := by decide +kernel
theorem dX5_changes_61 : decode cX5_changes 61 = .ok (.bipush 56, 2) := by decide +kernel
theorem dX5_changes_63 : decode cX5_changes 63 = .ok (.aload_n 0, 1) := by decide +kernel
theorem dX5_changes_64 : decode cX5_changes 64 = .ok (.getfield 40, 3) := by decide +kernel
theorem dX5_changes_67 : decode cX5_changes 67 = .ok (.imul, 1) := by decide +kernel
theorem dX5_changes_68 : decode cX5_changes 68 = .ok (.iload_n 1, 1) := by decide +kernel
theorem dX5_changes_69 : decode cX5_changes 69 = .ok (.iadd, 1) := by decide +kernel
theorem dX5_changes_70 : decode cX5_changes 70 = .ok (.aload_n 0, 1) := by decide +kernel
theorem dX5_changes_71 : decode cX5_changes 71 = .ok (.getfield 7, 3) := by decide +kernel
theorem dX5_changes_74 : decode cX5_changes 74 = .ok (.iload_n 1, 1) := by decide +kernel
theorem dX5_changes_75 : decode cX5_changes 75 = .ok (.iaload, 1) := by decide +kernel
theorem dX5_changes_76 : decode cX5_changes 76 = .ok (.iastore, 1) := by decide +kernel
theorem dX5_changes_77 : decode cX5_changes 77 = .ok (.iinc 1 1, 3) := by decide +kernel
theorem dX5_changes_80 : decode cX5_changes 80 = .ok (.goto (-29), 3) := by decide +kernel
theorem dX5_changes_83 : decode cX5_changes 83 = .ok (.aload_n 0, 1) := by decide +kernel
theorem dX5_changes_84 : decode cX5_changes 84 = .ok (.dup, 1) := by decide +kernel
theorem dX5_changes_85 : decode cX5_changes 85 = .ok (.getfield 40, 3) := by decide +kernel
theorem dX5_changes_88 : decode cX5_changes 88 = .ok (.iconst 1, 1) := by decide +kernel
theorem dX5_changes_89 : decode cX5_changes 89 = .ok (.iadd, 1) := by decide +kernel
theorem dX5_changes_90 : decode cX5_changes 90 = .ok (.putfield 40, 3) := by decide +kernel
theorem dX5_changes_93 : decode cX5_changes 93 = .ok (.return_, 1) := by decide +kernel
theorem dX5_keeps_0 : decode cX5_keeps 0 = .ok (.iconst 0, 1) := by decide +kernel
theorem dX5_keeps_1 : decode cX5_keeps 1 = .ok (.istore_n 1, 1) := by decide +kernel
theorem dX5_keeps_2 : decode cX5_keeps 2 = .ok (.iload_n 1, 1) := by decide +kernel
theorem dX5_keeps_3 : decode cX5_keeps 3 = .ok (.bipush 56, 2) := by decide +kernel
theorem dX5_keeps_5 : decode cX5_keeps 5 = .ok (.if_icmp .ge 21, 3) := by decide +kernel
theorem dX5_keeps_8 : decode cX5_keeps 8 = .ok (.aload_n 0, 1) := by decide +kernel
theorem dX5_keeps_9 : decode cX5_keeps 9 = .ok (.getfield 13, 3) := by decide +kernel
theorem dX5_keeps_12 : decode cX5_keeps 12 = .ok (.iload_n 1, 1) := by decide +kernel
theorem dX5_keeps_13 : decode cX5_keeps 13 = .ok (.aload_n 0, 1) := by decide +kernel
theorem dX5_keeps_14 : decode cX5_keeps 14 = .ok (.getfield 7, 3) := by decide +kernel
theorem dX5_keeps_17 : decode cX5_keeps 17 = .ok (.iload_n 1, 1) := by decide +kernel
theorem dX5_keeps_18 : decode cX5_keeps 18 = .ok (.iaload, 1) := by decide +kernel
theorem dX5_keeps_19 : decode cX5_keeps 19 = .ok (.iastore, 1) := by decide +kernel
theorem dX5_keeps_20 : decode cX5_keeps 20 = .ok (.iinc 1 1, 3) := by decide +kernel
theorem dX5_keeps_23 : decode cX5_keeps 23 = .ok (.goto (-21), 3) := by decide +kernel
theorem dX5_keeps_26 : decode cX5_keeps 26 = .ok (.return_, 1) := by decide +kernel
theorem dX5_comesBack_0 : decode cX5_comesBack 0 = .ok (.iconst 0, 1) := by decide +kernel
theorem dX5_comesBack_1 : decode cX5_comesBack 1 = .ok (.istore_n 1, 1) := by decide +kernel
theorem dX5_comesBack_2 : decode cX5_comesBack 2 = .ok (.iload_n 1, 1) := by decide +kernel
theorem dX5_comesBack_3 : decode cX5_comesBack 3 = .ok (.bipush 56, 2) := by decide +kernel
theorem dX5_comesBack_5 : decode cX5_comesBack 5 = .ok (.if_icmp .ge 21, 3) := by decide +kernel
theorem dX5_comesBack_8 : decode cX5_comesBack 8 = .ok (.aload_n 0, 1) := by decide +kernel
theorem dX5_comesBack_9 : decode cX5_comesBack 9 = .ok (.getfield 7, 3) := by decide +kernel
theorem dX5_comesBack_12 : decode cX5_comesBack 12 = .ok (.iload_n 1, 1) := by decide +kernel
theorem dX5_comesBack_13 : decode cX5_comesBack 13 = .ok (.aload_n 0, 1) := by decide +kernel
theorem dX5_comesBack_14 : decode cX5_comesBack 14 = .ok (.getfield 13, 3) := by decide +kernel
theorem dX5_comesBack_17 : decode cX5_comesBack 17 = .ok (.iload_n 1, 1) := by decide +kernel
theorem dX5_comesBack_18 : decode cX5_comesBack 18 = .ok (.iaload, 1) := by decide +kernel
theorem dX5_comesBack_19 : decode cX5_comesBack 19 = .ok (.iastore, 1) := by decide +kernel
theorem dX5_comesBack_20 : decode cX5_comesBack 20 = .ok (.iinc 1 1, 3) := by decide +kernel
theorem dX5_comesBack_23 : decode cX5_comesBack 23 = .ok (.goto (-21), 3) := by decide +kernel
theorem dX5_comesBack_26 : decode cX5_comesBack 26 = .ok (.return_, 1) := by decide +kernel
set_option maxRecDepth 20000 in
theorem ggX5_isJob_X5_in : GoodIn wsX5_isJob wsX5_in := goodIn_r _ [5] (by decide +kernel) (by decide +kernel)
set_option maxRecDepth 20000 in
theorem gX5_isJob_X5_in : GoodIn wsX5_isJob (va_wsS RX5 44 yX5_in wsX5_in) := goodIn_app (goodIn_of _ (by decide +kernel)) ggX5_isJob_X5_in
theorem dX5_isJob_0 : decode cX5_isJob 0 = .ok (.iload_n 1, 1) := by decide +kernel
theorem dX5_isJob_1 : decode cX5_isJob 1 = .ok (.i2l, 1) := by decide +kernel
theorem dX5_isJob_2 : decode cX5_isJob 2 = .ok (.lconst 0, 1) := by decide +kernel
theorem dX5_isJob_3 : decode cX5_isJob 3 = .ok (.aload_n 0, 1) := by decide +kernel
theorem dX5_isJob_4 : decode cX5_isJob 4 = .ok (.getfield 7, 3) := by decide +kernel
theorem dX5_isJob_7 : decode cX5_isJob 7 = .ok (.bipush 7, 2) := by decide +kernel
theorem dX5_isJob_9 : decode cX5_isJob 9 = .ok (.iaload, 1) := by decide +kernel
theorem dX5_isJob_10 : decode cX5_isJob 10 = .ok (.i2l, 1) := by decide +kernel
theorem dX5_isJob_11 : decode cX5_isJob 11 = .ok (.lconst 1, 1) := by decide +kernel
theorem dX5_isJob_12 : decode cX5_isJob 12 = .ok (.lsub, 1) := by decide +kernel
theorem dX5_isJob_13 : decode cX5_isJob 13 = .ok (.invokestatic 44, 3) := by decide +kernel
theorem dX5_isJob_16 : decode cX5_isJob 16 = .ok (.ireturn, 1) := by decide +kernel
theorem dX5_its_0 : decode cX5_its 0 = .ok (.aload_n 0, 1) := by decide +kernel
theorem dX5_its_1 : decode cX5_its 1 = .ok (.getfield 7, 3) := by decide +kernel
theorem dX5_its_4 : decode cX5_its 4 = .ok (.bipush 8, 2) := by decide +kernel
theorem dX5_its_6 : decode cX5_its 6 = .ok (.iconst 4, 1) := by decide +kernel
theorem dX5_its_7 : decode cX5_its 7 = .ok (.iload_n 1, 1) := by decide +kernel
theorem dX5_its_8 : decode cX5_its 8 = .ok (.imul, 1) := by decide +kernel
theorem dX5_its_9 : decode cX5_its 9 = .ok (.iadd, 1) := by decide +kernel
theorem dX5_its_10 : decode cX5_its 10 = .ok (.iload_n 2, 1) := by decide +kernel
theorem dX5_its_11 : decode cX5_its 11 = .ok (.iadd, 1) := by decide +kernel
theorem dX5_its_12 : decode cX5_its 12 = .ok (.iaload, 1) := by decide +kernel
theorem dX5_its_13 : decode cX5_its 13 = .ok (.ireturn, 1) := by decide +kernel
theorem dX5_racksFor_0 : decode cX5_racksFor 0 = .ok (.iload_n 1, 1) := by decide +kernel
theorem dX5_racksFor_1 : decode cX5_racksFor 1 = .ok (.aload_n 0, 1) := by decide +kernel
theorem dX5_racksFor_2 : decode cX5_racksFor 2 = .ok (.getfield 7, 3) := by decide +kernel
theorem dX5_racksFor_5 : decode cX5_racksFor 5 = .ok (.bipush 6, 2) := by decide +kernel
theorem dX5_racksFor_7 : decode cX5_racksFor 7 = .ok (.iaload, 1) := by decide +kernel
theorem dX5_racksFor_8 : decode cX5_racksFor 8 = .ok (.iadd, 1) := by decide +kernel
theorem dX5_racksFor_9 : decode cX5_racksFor 9 = .ok (.iconst 1, 1) := by decide +kernel
theorem dX5_racksFor_10 : decode cX5_racksFor 10 = .ok (.isub, 1) := by decide +kernel
theorem dX5_racksFor_11 : decode cX5_racksFor 11 = .ok (.aload_n 0, 1) := by decide +kernel
theorem dX5_racksFor_12 : decode cX5_racksFor 12 = .ok (.getfield 7, 3) := by decide +kernel
theorem dX5_racksFor_15 : decode cX5_racksFor 15 = .ok (.bipush 6, 2) := by decide +kernel
theorem dX5_racksFor_17 : decode cX5_racksFor 17 = .ok (.iaload, 1) := by decide +kernel
theorem dX5_racksFor_18 : decode cX5_racksFor 18 = .ok (.idiv, 1) := by decide +kernel
theorem dX5_racksFor_19 : decode cX5_racksFor 19 = .ok (.ireturn, 1) := by decide +kernel
set_option maxRecDepth 20000 in
theorem ggX5_racksOf_X5_its : GoodIn wsX5_racksOf wsX5_its := goodIn_r _ [5, 6, 11, 12, 13, 14, 15, 16, 17, 18, 19, 20, 21, 22, 23, 24] (by decide +kernel) (by decide +kernel)
set_option maxRecDepth 20000 in
theorem gX5_racksOf_X5_its : GoodIn wsX5_racksOf (wsV RX5 48 RX5 yX5_its wsX5_its) := goodIn_app (goodIn_of _ (by decide +kernel)) ggX5_racksOf_X5_its
set_option maxRecDepth 20000 in
theorem ggX5_racksOf_X5_racksFor : GoodIn wsX5_racksOf wsX5_racksFor := goodIn_r _ [10, 6, 11, 12, 13, 14, 15, 16, 17, 18, 19, 20, 21, 22, 23, 24] (by decide +kernel) (by decide +kernel)
set_option maxRecDepth 20000 in
theorem gX5_racksOf_X5_racksFor : GoodIn wsX5_racksOf (wsV RX5 52 RX5 yX5_racksFor wsX5_racksFor) := goodIn_app (goodIn_of _ (by decide +kernel)) ggX5_racksOf_X5_racksFor
theorem dX5_racksOf_0 : decode cX5_racksOf 0 = .ok (.aload_n 0, 1) := by decide +kernel
theorem dX5_racksOf_1 : decode cX5_racksOf 1 = .ok (.aload_n 0, 1) := by decide +kernel
theorem dX5_racksOf_2 : decode cX5_racksOf 2 = .ok (.iload_n 1, 1) := by decide +kernel
theorem dX5_racksOf_3 : decode cX5_racksOf 3 = .ok (.iconst 2, 1) := by decide +kernel
theorem dX5_racksOf_4 : decode cX5_racksOf 4 = .ok (.invokevirtual 48, 3) := by decide +kernel
theorem dX5_racksOf_7 : decode cX5_racksOf 7 = .ok (.invokevirtual 52, 3) := by decide +kernel
theorem dX5_racksOf_10 : decode cX5_racksOf 10 = .ok (.ireturn, 1) := by decide +kernel
set_option maxRecDepth 20000 in
theorem ggX5_exchanges_X5_its : GoodIn wsX5_exchanges wsX5_its := goodIn_r _ [6, 1, 7, 8, 9, 10, 11, 12, 13, 14, 15, 16, 17, 18, 19, 20] (by decide +kernel) (by decide +kernel)
set_option maxRecDepth 20000 in
theorem gX5_exchanges_X5_its : GoodIn wsX5_exchanges (wsV RX5 48 RX5 yX5_its wsX5_its) := goodIn_app (goodIn_of _ (by decide +kernel)) ggX5_exchanges_X5_its
theorem dX5_exchanges_0 : decode cX5_exchanges 0 = .ok (.iconst 0, 1) := by decide +kernel
theorem dX5_exchanges_1 : decode cX5_exchanges 1 = .ok (.istore_n 3, 1) := by decide +kernel
theorem dX5_exchanges_2 : decode cX5_exchanges 2 = .ok (.iload_n 3, 1) := by decide +kernel
theorem dX5_exchanges_3 : decode cX5_exchanges 3 = .ok (.iconst 4, 1) := by decide +kernel
theorem dX5_exchanges_4 : decode cX5_exchanges 4 = .ok (.if_icmp .ge 51, 3) := by decide +kernel
theorem dX5_exchanges_7 : decode cX5_exchanges 7 = .ok (.aload_n 0, 1) := by decide +kernel
theorem dX5_exchanges_8 : decode cX5_exchanges 8 = .ok (.iload_n 1, 1) := by decide +kernel
theorem dX5_exchanges_9 : decode cX5_exchanges 9 = .ok (.iload_n 3, 1) := by decide +kernel
theorem dX5_exchanges_10 : decode cX5_exchanges 10 = .ok (.invokevirtual 48, 3) := by decide +kernel
theorem dX5_exchanges_13 : decode cX5_exchanges 13 = .ok (.istore 4, 2) := by decide +kernel
theorem dX5_exchanges_15 : decode cX5_exchanges 15 = .ok (.aload_n 0, 1) := by decide +kernel
theorem dX5_exchanges_16 : decode cX5_exchanges 16 = .ok (.getfield 7, 3) := by decide +kernel
theorem dX5_exchanges_19 : decode cX5_exchanges 19 = .ok (.bipush 8, 2) := by decide +kernel
theorem dX5_exchanges_21 : decode cX5_exchanges 21 = .ok (.iconst 4, 1) := by decide +kernel
theorem dX5_exchanges_22 : decode cX5_exchanges 22 = .ok (.iload_n 1, 1) := by decide +kernel
theorem dX5_exchanges_23 : decode cX5_exchanges 23 = .ok (.imul, 1) := by decide +kernel
theorem dX5_exchanges_24 : decode cX5_exchanges 24 = .ok (.iadd, 1) := by decide +kernel
theorem dX5_exchanges_25 : decode cX5_exchanges 25 = .ok (.iload_n 3, 1) := by decide +kernel
theorem dX5_exchanges_26 : decode cX5_exchanges 26 = .ok (.iadd, 1) := by decide +kernel
theorem dX5_exchanges_27 : decode cX5_exchanges 27 = .ok (.aload_n 0, 1) := by decide +kernel
theorem dX5_exchanges_28 : decode cX5_exchanges 28 = .ok (.iload_n 2, 1) := by decide +kernel
theorem dX5_exchanges_29 : decode cX5_exchanges 29 = .ok (.iload_n 3, 1) := by decide +kernel
theorem dX5_exchanges_30 : decode cX5_exchanges 30 = .ok (.invokevirtual 48, 3) := by decide +kernel
theorem dX5_exchanges_33 : decode cX5_exchanges 33 = .ok (.iastore, 1) := by decide +kernel
theorem dX5_exchanges_34 : decode cX5_exchanges 34 = .ok (.aload_n 0, 1) := by decide +kernel
theorem dX5_exchanges_35 : decode cX5_exchanges 35 = .ok (.getfield 7, 3) := by decide +kernel
theorem dX5_exchanges_38 : decode cX5_exchanges 38 = .ok (.bipush 8, 2) := by decide +kernel
theorem dX5_exchanges_40 : decode cX5_exchanges 40 = .ok (.iconst 4, 1) := by decide +kernel
theorem dX5_exchanges_41 : decode cX5_exchanges 41 = .ok (.iload_n 2, 1) := by decide +kernel
theorem dX5_exchanges_42 : decode cX5_exchanges 42 = .ok (.imul, 1) := by decide +kernel
theorem dX5_exchanges_43 : decode cX5_exchanges 43 = .ok (.iadd, 1) := by decide +kernel
theorem dX5_exchanges_44 : decode cX5_exchanges 44 = .ok (.iload_n 3, 1) := by decide +kernel
theorem dX5_exchanges_45 : decode cX5_exchanges 45 = .ok (.iadd, 1) := by decide +kernel
theorem dX5_exchanges_46 : decode cX5_exchanges 46 = .ok (.iload 4, 2) := by decide +kernel
theorem dX5_exchanges_48 : decode cX5_exchanges 48 = .ok (.iastore, 1) := by decide +kernel
theorem dX5_exchanges_49 : decode cX5_exchanges 49 = .ok (.iinc 3 1, 3) := by decide +kernel
theorem dX5_exchanges_52 : decode cX5_exchanges 52 = .ok (.goto (-50), 3) := by decide +kernel
theorem dX5_exchanges_55 : decode cX5_exchanges 55 = .ok (.return_, 1) := by decide +kernel
set_option maxRecDepth 20000 in
theorem ggX5_moves_X5_exchanges : GoodIn wsX5_moves wsX5_exchanges := goodIn_r _ [5, 6, 7, 8, 9, 4, 10, 11, 12, 13, 14, 15, 16, 17, 18, 19, 20, 21, 22, 23, 24] (by decide +kernel) (by decide +kernel)
set_option maxRecDepth 20000 in
theorem gX5_moves_X5_exchanges : GoodIn wsX5_moves (wsV RX5 56 RX5 yX5_exchanges wsX5_exchanges) := goodIn_app (goodIn_of _ (by decide +kernel)) ggX5_moves_X5_exchanges
theorem dX5_moves_0 : decode cX5_moves 0 = .ok (.iload_n 1, 1) := by decide +kernel
theorem dX5_moves_1 : decode cX5_moves 1 = .ok (.istore_n 3, 1) := by decide +kernel
theorem dX5_moves_2 : decode cX5_moves 2 = .ok (.iload_n 3, 1) := by decide +kernel
theorem dX5_moves_3 : decode cX5_moves 3 = .ok (.iload_n 2, 1) := by decide +kernel
theorem dX5_moves_4 : decode cX5_moves 4 = .ok (.if_icmp .eq 32, 3) := by decide +kernel
theorem dX5_moves_7 : decode cX5_moves 7 = .ok (.iload_n 3, 1) := by decide +kernel
theorem dX5_moves_8 : decode cX5_moves 8 = .ok (.iload_n 2, 1) := by decide +kernel
theorem dX5_moves_9 : decode cX5_moves 9 = .ok (.if_icmp .ge 9, 3) := by decide +kernel
theorem dX5_moves_12 : decode cX5_moves 12 = .ok (.iload_n 3, 1) := by decide +kernel
theorem dX5_moves_13 : decode cX5_moves 13 = .ok (.iconst 1, 1) := by decide +kernel
theorem dX5_moves_14 : decode cX5_moves 14 = .ok (.iadd, 1) := by decide +kernel
theorem dX5_moves_15 : decode cX5_moves 15 = .ok (.goto 6, 3) := by decide +kernel
theorem dX5_moves_18 : decode cX5_moves 18 = .ok (.iload_n 3, 1) := by decide +kernel
theorem dX5_moves_19 : decode cX5_moves 19 = .ok (.iconst 1, 1) := by decide +kernel
theorem dX5_moves_20 : decode cX5_moves 20 = .ok (.isub, 1) := by decide +kernel
theorem dX5_moves_21 : decode cX5_moves 21 = .ok (.istore 4, 2) := by decide +kernel
theorem dX5_moves_23 : decode cX5_moves 23 = .ok (.aload_n 0, 1) := by decide +kernel
theorem dX5_moves_24 : decode cX5_moves 24 = .ok (.iload_n 3, 1) := by decide +kernel
theorem dX5_moves_25 : decode cX5_moves 25 = .ok (.iload 4, 2) := by decide +kernel
theorem dX5_moves_27 : decode cX5_moves 27 = .ok (.invokevirtual 56, 3) := by decide +kernel
theorem dX5_moves_30 : decode cX5_moves 30 = .ok (.iload 4, 2) := by decide +kernel
theorem dX5_moves_32 : decode cX5_moves 32 = .ok (.istore_n 3, 1) := by decide +kernel
theorem dX5_moves_33 : decode cX5_moves 33 = .ok (.goto (-31), 3) := by decide +kernel
theorem dX5_moves_36 : decode cX5_moves 36 = .ok (.return_, 1) := by decide +kernel
set_option maxRecDepth 20000 in
theorem ggX5_washFor_X5_its : GoodIn wsX5_washFor wsX5_its := goodIn_r _ [6, 1, 7, 8, 9, 10, 11, 12, 13, 14, 15, 16, 17, 18, 19, 20] (by decide +kernel) (by decide +kernel)
set_option maxRecDepth 20000 in
theorem gX5_washFor_X5_its : GoodIn wsX5_washFor (wsV RX5 48 RX5 yX5_its wsX5_its) := goodIn_app (goodIn_of _ (by decide +kernel)) ggX5_washFor_X5_its
theorem dX5_washFor_0 : decode cX5_washFor 0 = .ok (.iload_n 1, 1) := by decide +kernel
theorem dX5_washFor_1 : decode cX5_washFor 1 = .ok (.ifCond .ne 5, 3) := by decide +kernel
theorem dX5_washFor_4 : decode cX5_washFor 4 = .ok (.iconst 0, 1) := by decide +kernel
theorem dX5_washFor_5 : decode cX5_washFor 5 = .ok (.ireturn, 1) := by decide +kernel
theorem dX5_washFor_6 : decode cX5_washFor 6 = .ok (.aload_n 0, 1) := by decide +kernel
theorem dX5_washFor_7 : decode cX5_washFor 7 = .ok (.iload_n 1, 1) := by decide +kernel
theorem dX5_washFor_8 : decode cX5_washFor 8 = .ok (.iconst 1, 1) := by decide +kernel
theorem dX5_washFor_9 : decode cX5_washFor 9 = .ok (.isub, 1) := by decide +kernel
theorem dX5_washFor_10 : decode cX5_washFor 10 = .ok (.iconst 1, 1) := by decide +kernel
theorem dX5_washFor_11 : decode cX5_washFor 11 = .ok (.invokevirtual 48, 3) := by decide +kernel
theorem dX5_washFor_14 : decode cX5_washFor 14 = .ok (.aload_n 0, 1) := by decide +kernel
theorem dX5_washFor_15 : decode cX5_washFor 15 = .ok (.iload_n 1, 1) := by decide +kernel
theorem dX5_washFor_16 : decode cX5_washFor 16 = .ok (.iconst 1, 1) := by decide +kernel
theorem dX5_washFor_17 : decode cX5_washFor 17 = .ok (.invokevirtual 48, 3) := by decide +kernel
theorem dX5_washFor_20 : decode cX5_washFor 20 = .ok (.isub, 1) := by decide +kernel
theorem dX5_washFor_21 : decode cX5_washFor 21 = .ok (.istore_n 2, 1) := by decide +kernel
theorem dX5_washFor_22 : decode cX5_washFor 22 = .ok (.iload_n 2, 1) := by decide +kernel
theorem dX5_washFor_23 : decode cX5_washFor 23 = .ok (.ifCond .ne 7, 3) := by decide +kernel
theorem dX5_washFor_26 : decode cX5_washFor 26 = .ok (.iconst 0, 1) := by decide +kernel
theorem dX5_washFor_27 : decode cX5_washFor 27 = .ok (.goto 31, 3) := by decide +kernel
theorem dX5_washFor_30 : decode cX5_washFor 30 = .ok (.iload_n 2, 1) := by decide +kernel
theorem dX5_washFor_31 : decode cX5_washFor 31 = .ok (.ifCond .ge 12, 3) := by decide +kernel
theorem dX5_washFor_34 : decode cX5_washFor 34 = .ok (.aload_n 0, 1) := by decide +kernel
theorem dX5_washFor_35 : decode cX5_washFor 35 = .ok (.getfield 7, 3) := by decide +kernel
theorem dX5_washFor_38 : decode cX5_washFor 38 = .ok (.iconst 2, 1) := by decide +kernel
theorem dX5_washFor_39 : decode cX5_washFor 39 = .ok (.iaload, 1) := by decide +kernel
theorem dX5_washFor_40 : decode cX5_washFor 40 = .ok (.goto 18, 3) := by decide +kernel
theorem dX5_washFor_43 : decode cX5_washFor 43 = .ok (.aload_n 0, 1) := by decide +kernel
theorem dX5_washFor_44 : decode cX5_washFor 44 = .ok (.getfield 7, 3) := by decide +kernel
theorem dX5_washFor_47 : decode cX5_washFor 47 = .ok (.iconst 1, 1) := by decide +kernel
theorem dX5_washFor_48 : decode cX5_washFor 48 = .ok (.iaload, 1) := by decide +kernel
theorem dX5_washFor_49 : decode cX5_washFor 49 = .ok (.aload_n 0, 1) := by decide +kernel
theorem dX5_washFor_50 : decode cX5_washFor 50 = .ok (.getfield 7, 3) := by decide +kernel
theorem dX5_washFor_53 : decode cX5_washFor 53 = .ok (.iconst 2, 1) := by decide +kernel
theorem dX5_washFor_54 : decode cX5_washFor 54 = .ok (.iaload, 1) := by decide +kernel
theorem dX5_washFor_55 : decode cX5_washFor 55 = .ok (.iload_n 2, 1) := by decide +kernel
theorem dX5_washFor_56 : decode cX5_washFor 56 = .ok (.imul, 1) := by decide +kernel
theorem dX5_washFor_57 : decode cX5_washFor 57 = .ok (.iadd, 1) := by decide +kernel
theorem dX5_washFor_58 : decode cX5_washFor 58 = .ok (.ireturn, 1) := by decide +kernel
set_option maxRecDepth 20000 in
theorem ggX5_plateFor_X5_its : GoodIn wsX5_plateFor wsX5_its := goodIn_r _ [6, 1, 7, 8, 9, 10, 11, 12, 13, 14, 15, 16, 17, 18, 19, 20] (by decide +kernel) (by decide +kernel)
set_option maxRecDepth 20000 in
theorem gX5_plateFor_X5_its : GoodIn wsX5_plateFor (wsV RX5 48 RX5 yX5_its wsX5_its) := goodIn_app (goodIn_of _ (by decide +kernel)) ggX5_plateFor_X5_its
theorem dX5_plateFor_0 : decode cX5_plateFor 0 = .ok (.iload_n 1, 1) := by decide +kernel
theorem dX5_plateFor_1 : decode cX5_plateFor 1 = .ok (.ifCond .le 24, 3) := by decide +kernel
theorem dX5_plateFor_4 : decode cX5_plateFor 4 = .ok (.aload_n 0, 1) := by decide +kernel
theorem dX5_plateFor_5 : decode cX5_plateFor 5 = .ok (.iload_n 1, 1) := by decide +kernel
theorem dX5_plateFor_6 : decode cX5_plateFor 6 = .ok (.iconst 1, 1) := by decide +kernel
theorem dX5_plateFor_7 : decode cX5_plateFor 7 = .ok (.isub, 1) := by decide +kernel
theorem dX5_plateFor_8 : decode cX5_plateFor 8 = .ok (.iconst 0, 1) := by decide +kernel
theorem dX5_plateFor_9 : decode cX5_plateFor 9 = .ok (.invokevirtual 48, 3) := by decide +kernel
theorem dX5_plateFor_12 : decode cX5_plateFor 12 = .ok (.aload_n 0, 1) := by decide +kernel
theorem dX5_plateFor_13 : decode cX5_plateFor 13 = .ok (.iload_n 1, 1) := by decide +kernel
theorem dX5_plateFor_14 : decode cX5_plateFor 14 = .ok (.iconst 0, 1) := by decide +kernel
theorem dX5_plateFor_15 : decode cX5_plateFor 15 = .ok (.invokevirtual 48, 3) := by decide +kernel
theorem dX5_plateFor_18 : decode cX5_plateFor 18 = .ok (.if_icmp .ne 7, 3) := by decide +kernel
theorem dX5_plateFor_21 : decode cX5_plateFor 21 = .ok (.iconst 0, 1) := by decide +kernel
theorem dX5_plateFor_22 : decode cX5_plateFor 22 = .ok (.goto 9, 3) := by decide +kernel
theorem dX5_plateFor_25 : decode cX5_plateFor 25 = .ok (.aload_n 0, 1) := by decide +kernel
theorem dX5_plateFor_26 : decode cX5_plateFor 26 = .ok (.getfield 7, 3) := by decide +kernel
theorem dX5_plateFor_29 : decode cX5_plateFor 29 = .ok (.iconst 0, 1) := by decide +kernel
theorem dX5_plateFor_30 : decode cX5_plateFor 30 = .ok (.iaload, 1) := by decide +kernel
theorem dX5_plateFor_31 : decode cX5_plateFor 31 = .ok (.ireturn, 1) := by decide +kernel
set_option maxRecDepth 20000 in
theorem ggX5_readyFor_X5_plateFor : GoodIn wsX5_readyFor wsX5_plateFor := goodIn_r _ [5, 6, 7, 8, 9, 4, 10, 15, 16, 17, 18, 19, 20, 21, 22, 23, 24, 25, 26, 27, 28] (by decide +kernel) (by decide +kernel)
set_option maxRecDepth 20000 in
theorem gX5_readyFor_X5_plateFor : GoodIn wsX5_readyFor (wsV RX5 60 RX5 yX5_plateFor wsX5_plateFor) := goodIn_app (goodIn_of _ (by decide +kernel)) ggX5_readyFor_X5_plateFor
set_option maxRecDepth 20000 in
theorem ggX5_readyFor_X5_washFor : GoodIn wsX5_readyFor wsX5_washFor := goodIn_r _ [14, 6, 7, 8, 9, 4, 10, 15, 16, 17, 18, 19, 20, 21, 22, 23, 24, 25, 26, 27, 28] (by decide +kernel) (by decide +kernel)
set_option maxRecDepth 20000 in
theorem gX5_readyFor_X5_washFor : GoodIn wsX5_readyFor (wsV RX5 63 RX5 yX5_washFor wsX5_washFor) := goodIn_app (goodIn_of _ (by decide +kernel)) ggX5_readyFor_X5_washFor
theorem dX5_readyFor_0 : decode cX5_readyFor 0 = .ok (.aload_n 0, 1) := by decide +kernel
theorem dX5_readyFor_1 : decode cX5_readyFor 1 = .ok (.iload_n 1, 1) := by decide +kernel
theorem dX5_readyFor_2 : decode cX5_readyFor 2 = .ok (.invokevirtual 60, 3) := by decide +kernel
theorem dX5_readyFor_5 : decode cX5_readyFor 5 = .ok (.aload_n 0, 1) := by decide +kernel
theorem dX5_readyFor_6 : decode cX5_readyFor 6 = .ok (.iload_n 1, 1) := by decide +kernel
theorem dX5_readyFor_7 : decode cX5_readyFor 7 = .ok (.invokevirtual 63, 3) := by decide +kernel
theorem dX5_readyFor_10 : decode cX5_readyFor 10 = .ok (.iadd, 1) := by decide +kernel
theorem dX5_readyFor_11 : decode cX5_readyFor 11 = .ok (.ireturn, 1) := by decide +kernel
theorem dX5_dry_0 : decode cX5_dry 0 = .ok (.aload_n 0, 1) := by decide +kernel
theorem dX5_dry_1 : decode cX5_dry 1 = .ok (.getfield 28, 3) := by decide +kernel
theorem dX5_dry_4 : decode cX5_dry 4 = .ok (.iload_n 1, 1) := by decide +kernel
theorem dX5_dry_5 : decode cX5_dry 5 = .ok (.iaload, 1) := by decide +kernel
theorem dX5_dry_6 : decode cX5_dry 6 = .ok (.aload_n 0, 1) := by decide +kernel
theorem dX5_dry_7 : decode cX5_dry 7 = .ok (.getfield 7, 3) := by decide +kernel
theorem dX5_dry_10 : decode cX5_dry 10 = .ok (.iconst 4, 1) := by decide +kernel
theorem dX5_dry_11 : decode cX5_dry 11 = .ok (.iaload, 1) := by decide +kernel
theorem dX5_dry_12 : decode cX5_dry 12 = .ok (.iadd, 1) := by decide +kernel
theorem dX5_dry_13 : decode cX5_dry 13 = .ok (.ireturn, 1) := by decide +kernel
set_option maxRecDepth 20000 in
theorem ggX5_taken_X5_dry : GoodIn wsX5_taken wsX5_dry := goodIn_r _ [6, 1, 7, 20, 21, 22, 23, 24, 25, 26, 27, 28, 29, 30, 31, 32, 33] (by decide +kernel) (by decide +kernel)
set_option maxRecDepth 20000 in
theorem gX5_taken_X5_dry : GoodIn wsX5_taken (wsV RX5 66 RX5 yX5_dry wsX5_dry) := goodIn_app (goodIn_of _ (by decide +kernel)) ggX5_taken_X5_dry
set_option maxRecDepth 20000 in
theorem ggX5_taken_X5_racksOf : GoodIn wsX5_taken wsX5_racksOf := goodIn_r _ [11, 12, 13, 14, 5, 15, 7, 16, 17, 18, 19, 20, 21, 22, 23, 24, 25, 26, 27, 28, 29, 30, 31, 32, 33] (by decide +kernel) (by decide +kernel)
set_option maxRecDepth 20000 in
theorem gX5_taken_X5_racksOf : GoodIn wsX5_taken (wsV RX5 69 RX5 yX5_racksOf wsX5_racksOf) := goodIn_app (goodIn_of _ (by decide +kernel)) ggX5_taken_X5_racksOf
theorem dX5_taken_0 : decode cX5_taken 0 = .ok (.iconst 0, 1) := by decide +kernel
theorem dX5_taken_1 : decode cX5_taken 1 = .ok (.istore_n 3, 1) := by decide +kernel
theorem dX5_taken_2 : decode cX5_taken 2 = .ok (.iconst 0, 1) := by decide +kernel
theorem dX5_taken_3 : decode cX5_taken 3 = .ok (.istore 4, 2) := by decide +kernel
theorem dX5_taken_5 : decode cX5_taken 5 = .ok (.iload 4, 2) := by decide +kernel
theorem dX5_taken_7 : decode cX5_taken 7 = .ok (.iload_n 1, 1) := by decide +kernel
theorem dX5_taken_8 : decode cX5_taken 8 = .ok (.if_icmp .ge 43, 3) := by decide +kernel
theorem dX5_taken_11 : decode cX5_taken 11 = .ok (.iload_n 3, 1) := by decide +kernel
theorem dX5_taken_12 : decode cX5_taken 12 = .ok (.aload_n 0, 1) := by decide +kernel
theorem dX5_taken_13 : decode cX5_taken 13 = .ok (.getfield 28, 3) := by decide +kernel
theorem dX5_taken_16 : decode cX5_taken 16 = .ok (.iload 4, 2) := by decide +kernel
theorem dX5_taken_18 : decode cX5_taken 18 = .ok (.iaload, 1) := by decide +kernel
theorem dX5_taken_19 : decode cX5_taken 19 = .ok (.iload_n 2, 1) := by decide +kernel
theorem dX5_taken_20 : decode cX5_taken 20 = .ok (.if_icmp .gt 22, 3) := by decide +kernel
theorem dX5_taken_23 : decode cX5_taken 23 = .ok (.iload_n 2, 1) := by decide +kernel
theorem dX5_taken_24 : decode cX5_taken 24 = .ok (.aload_n 0, 1) := by decide +kernel
theorem dX5_taken_25 : decode cX5_taken 25 = .ok (.iload 4, 2) := by decide +kernel
theorem dX5_taken_27 : decode cX5_taken 27 = .ok (.invokevirtual 66, 3) := by decide +kernel
theorem dX5_taken_30 : decode cX5_taken 30 = .ok (.if_icmp .ge 12, 3) := by decide +kernel
theorem dX5_taken_33 : decode cX5_taken 33 = .ok (.aload_n 0, 1) := by decide +kernel
theorem dX5_taken_34 : decode cX5_taken 34 = .ok (.iload 4, 2) := by decide +kernel
theorem dX5_taken_36 : decode cX5_taken 36 = .ok (.invokevirtual 69, 3) := by decide +kernel
theorem dX5_taken_39 : decode cX5_taken 39 = .ok (.goto 4, 3) := by decide +kernel
theorem dX5_taken_42 : decode cX5_taken 42 = .ok (.iconst 0, 1) := by decide +kernel
theorem dX5_taken_43 : decode cX5_taken 43 = .ok (.iadd, 1) := by decide +kernel
theorem dX5_taken_44 : decode cX5_taken 44 = .ok (.istore_n 3, 1) := by decide +kernel
theorem dX5_taken_45 : decode cX5_taken 45 = .ok (.iinc 4 1, 3) := by decide +kernel
theorem dX5_taken_48 : decode cX5_taken 48 = .ok (.goto (-43), 3) := by decide +kernel
theorem dX5_taken_51 : decode cX5_taken 51 = .ok (.iload_n 3, 1) := by decide +kernel
theorem dX5_taken_52 : decode cX5_taken 52 = .ok (.ireturn, 1) := by decide +kernel
set_option maxRecDepth 20000 in
theorem ggX5_prints_X5_readyFor : GoodIn wsX5_prints wsX5_readyFor := goodIn_r _ [8, 9, 10, 11, 7, 12, 1, 13, 14, 15, 16, 17, 18, 19, 20, 37, 38, 39, 40, 41, 42, 43, 44, 45, 46, 47, 48, 49, 50] (by decide +kernel) (by decide +kernel)
set_option maxRecDepth 20000 in
theorem gX5_prints_X5_readyFor : GoodIn wsX5_prints (wsV RX5 72 RX5 yX5_readyFor wsX5_readyFor) := goodIn_app (goodIn_of _ (by decide +kernel)) ggX5_prints_X5_readyFor
set_option maxRecDepth 20000 in
theorem ggX5_prints_X5_its : GoodIn wsX5_prints wsX5_its := goodIn_r _ [16, 1, 37, 38, 39, 40, 41, 42, 43, 44, 45, 46, 47, 48, 49, 50] (by decide +kernel) (by decide +kernel)
set_option maxRecDepth 20000 in
theorem gX5_prints_X5_its : GoodIn wsX5_prints (wsV RX5 48 RX5 yX5_its wsX5_its) := goodIn_app (goodIn_of _ (by decide +kernel)) ggX5_prints_X5_its
set_option maxRecDepth 20000 in
theorem ggX5_prints_X5_taken : GoodIn wsX5_prints wsX5_taken := goodIn_r _ [24, 3, 25, 26, 27, 7, 28, 1, 29, 30, 31, 32, 13, 14, 15, 16, 33, 34, 35, 36, 37, 38, 39, 40, 41, 42, 43, 44, 45, 46, 47, 48, 49, 50] (by decide +kernel) (by decide +kernel)
set_option maxRecDepth 20000 in
theorem gX5_prints_X5_taken : GoodIn wsX5_prints (wsV RX5 75 RX5 yX5_taken wsX5_taken) := goodIn_app (goodIn_of _ (by decide +kernel)) ggX5_prints_X5_taken
set_option maxRecDepth 20000 in
theorem ggX5_prints_X5_racksOf : GoodIn wsX5_prints wsX5_racksOf := goodIn_r _ [32, 13, 14, 15, 7, 16, 1, 33, 34, 35, 36, 37, 38, 39, 40, 41, 42, 43, 44, 45, 46, 47, 48, 49, 50] (by decide +kernel) (by decide +kernel)
set_option maxRecDepth 20000 in
theorem gX5_prints_X5_racksOf : GoodIn wsX5_prints (wsV RX5 69 RX5 yX5_racksOf wsX5_racksOf) := goodIn_app (goodIn_of _ (by decide +kernel)) ggX5_prints_X5_racksOf
theorem dX5_prints_0 : decode cX5_prints 0 = .ok (.iconst 0, 1) := by decide +kernel
theorem dX5_prints_1 : decode cX5_prints 1 = .ok (.istore_n 1, 1) := by decide +kernel
theorem dX5_prints_2 : decode cX5_prints 2 = .ok (.iconst 0, 1) := by decide +kernel
theorem dX5_prints_3 : decode cX5_prints 3 = .ok (.istore_n 2, 1) := by decide +kernel
theorem dX5_prints_4 : decode cX5_prints 4 = .ok (.iload_n 2, 1) := by decide +kernel
theorem dX5_prints_5 : decode cX5_prints 5 = .ok (.aload_n 0, 1) := by decide +kernel
theorem dX5_prints_6 : decode cX5_prints 6 = .ok (.getfield 7, 3) := by decide +kernel
theorem dX5_prints_9 : decode cX5_prints 9 = .ok (.bipush 7, 2) := by decide +kernel
theorem dX5_prints_11 : decode cX5_prints 11 = .ok (.iaload, 1) := by decide +kernel
theorem dX5_prints_12 : decode cX5_prints 12 = .ok (.if_icmp .ge 87, 3) := by decide +kernel
theorem dX5_prints_15 : decode cX5_prints 15 = .ok (.aload_n 0, 1) := by decide +kernel
theorem dX5_prints_16 : decode cX5_prints 16 = .ok (.iload_n 2, 1) := by decide +kernel
theorem dX5_prints_17 : decode cX5_prints 17 = .ok (.invokevirtual 72, 3) := by decide +kernel
theorem dX5_prints_20 : decode cX5_prints 20 = .ok (.aload_n 0, 1) := by decide +kernel
theorem dX5_prints_21 : decode cX5_prints 21 = .ok (.getfield 7, 3) := by decide +kernel
theorem dX5_prints_24 : decode cX5_prints 24 = .ok (.iconst 3, 1) := by decide +kernel
theorem dX5_prints_25 : decode cX5_prints 25 = .ok (.iaload, 1) := by decide +kernel
theorem dX5_prints_26 : decode cX5_prints 26 = .ok (.aload_n 0, 1) := by decide +kernel
theorem dX5_prints_27 : decode cX5_prints 27 = .ok (.iload_n 2, 1) := by decide +kernel
theorem dX5_prints_28 : decode cX5_prints 28 = .ok (.iconst 2, 1) := by decide +kernel
theorem dX5_prints_29 : decode cX5_prints 29 = .ok (.invokevirtual 48, 3) := by decide +kernel
theorem dX5_prints_32 : decode cX5_prints 32 = .ok (.imul, 1) := by decide +kernel
theorem dX5_prints_33 : decode cX5_prints 33 = .ok (.iadd, 1) := by decide +kernel
theorem dX5_prints_34 : decode cX5_prints 34 = .ok (.istore_n 3, 1) := by decide +kernel
theorem dX5_prints_35 : decode cX5_prints 35 = .ok (.iload_n 1, 1) := by decide +kernel
theorem dX5_prints_36 : decode cX5_prints 36 = .ok (.istore 4, 2) := by decide +kernel
theorem dX5_prints_38 : decode cX5_prints 38 = .ok (.aload_n 0, 1) := by decide +kernel
theorem dX5_prints_39 : decode cX5_prints 39 = .ok (.getfield 7, 3) := by decide +kernel
theorem dX5_prints_42 : decode cX5_prints 42 = .ok (.iconst 5, 1) := by decide +kernel
theorem dX5_prints_43 : decode cX5_prints 43 = .ok (.iaload, 1) := by decide +kernel
theorem dX5_prints_44 : decode cX5_prints 44 = .ok (.aload_n 0, 1) := by decide +kernel
theorem dX5_prints_45 : decode cX5_prints 45 = .ok (.iload_n 2, 1) := by decide +kernel
theorem dX5_prints_46 : decode cX5_prints 46 = .ok (.iload 4, 2) := by decide +kernel
theorem dX5_prints_48 : decode cX5_prints 48 = .ok (.iload_n 3, 1) := by decide +kernel
theorem dX5_prints_49 : decode cX5_prints 49 = .ok (.iadd, 1) := by decide +kernel
theorem dX5_prints_50 : decode cX5_prints 50 = .ok (.invokevirtual 75, 3) := by decide +kernel
theorem dX5_prints_53 : decode cX5_prints 53 = .ok (.isub, 1) := by decide +kernel
theorem dX5_prints_54 : decode cX5_prints 54 = .ok (.aload_n 0, 1) := by decide +kernel
theorem dX5_prints_55 : decode cX5_prints 55 = .ok (.iload_n 2, 1) := by decide +kernel
theorem dX5_prints_56 : decode cX5_prints 56 = .ok (.invokevirtual 69, 3) := by decide +kernel
theorem dX5_prints_59 : decode cX5_prints 59 = .ok (.if_icmp .ge 9, 3) := by decide +kernel
theorem dX5_prints_62 : decode cX5_prints 62 = .ok (.iinc 4 1, 3) := by decide +kernel
theorem dX5_prints_65 : decode cX5_prints 65 = .ok (.goto (-27), 3) := by decide +kernel
theorem dX5_prints_68 : decode cX5_prints 68 = .ok (.aload_n 0, 1) := by decide +kernel
theorem dX5_prints_69 : decode cX5_prints 69 = .ok (.getfield 25, 3) := by decide +kernel
theorem dX5_prints_72 : decode cX5_prints 72 = .ok (.iload_n 2, 1) := by decide +kernel
theorem dX5_prints_73 : decode cX5_prints 73 = .ok (.iload 4, 2) := by decide +kernel
theorem dX5_prints_75 : decode cX5_prints 75 = .ok (.iastore, 1) := by decide +kernel
theorem dX5_prints_76 : decode cX5_prints 76 = .ok (.aload_n 0, 1) := by decide +kernel
theorem dX5_prints_77 : decode cX5_prints 77 = .ok (.getfield 28, 3) := by decide +kernel
theorem dX5_prints_80 : decode cX5_prints 80 = .ok (.iload_n 2, 1) := by decide +kernel
theorem dX5_prints_81 : decode cX5_prints 81 = .ok (.iload 4, 2) := by decide +kernel
theorem dX5_prints_83 : decode cX5_prints 83 = .ok (.iload_n 3, 1) := by decide +kernel
theorem dX5_prints_84 : decode cX5_prints 84 = .ok (.iadd, 1) := by decide +kernel
theorem dX5_prints_85 : decode cX5_prints 85 = .ok (.iastore, 1) := by decide +kernel
theorem dX5_prints_86 : decode cX5_prints 86 = .ok (.aload_n 0, 1) := by decide +kernel
theorem dX5_prints_87 : decode cX5_prints 87 = .ok (.getfield 28, 3) := by decide +kernel
theorem dX5_prints_90 : decode cX5_prints 90 = .ok (.iload_n 2, 1) := by decide +kernel
theorem dX5_prints_91 : decode cX5_prints 91 = .ok (.iaload, 1) := by decide +kernel
theorem dX5_prints_92 : decode cX5_prints 92 = .ok (.istore_n 1, 1) := by decide +kernel
theorem dX5_prints_93 : decode cX5_prints 93 = .ok (.iinc 2 1, 3) := by decide +kernel
theorem dX5_prints_96 : decode cX5_prints 96 = .ok (.goto (-92), 3) := by decide +kernel
theorem dX5_prints_99 : decode cX5_prints 99 = .ok (.return_, 1) := by decide +kernel
set_option maxRecDepth 20000 in
theorem ggX5_late_X5_dry : GoodIn wsX5_late wsX5_dry := goodIn_r _ [5, 6, 7, 12, 13, 14, 15, 16, 17, 18, 19, 20, 21, 22, 23, 24, 25] (by decide +kernel) (by decide +kernel)
set_option maxRecDepth 20000 in
theorem gX5_late_X5_dry : GoodIn wsX5_late (wsV RX5 66 RX5 yX5_dry wsX5_dry) := goodIn_app (goodIn_of _ (by decide +kernel)) ggX5_late_X5_dry
set_option maxRecDepth 20000 in
theorem ggX5_late_X5_its : GoodIn wsX5_late wsX5_its := goodIn_r _ [11, 7, 12, 13, 14, 15, 16, 17, 18, 19, 20, 21, 22, 23, 24, 25] (by decide +kernel) (by decide +kernel)
set_option maxRecDepth 20000 in
theorem gX5_late_X5_its : GoodIn wsX5_late (wsV RX5 48 RX5 yX5_its wsX5_its) := goodIn_app (goodIn_of _ (by decide +kernel)) ggX5_late_X5_its
theorem dX5_late_0 : decode cX5_late 0 = .ok (.aload_n 0, 1) := by decide +kernel
theorem dX5_late_1 : decode cX5_late 1 = .ok (.iload_n 1, 1) := by decide +kernel
theorem dX5_late_2 : decode cX5_late 2 = .ok (.invokevirtual 66, 3) := by decide +kernel
theorem dX5_late_5 : decode cX5_late 5 = .ok (.aload_n 0, 1) := by decide +kernel
theorem dX5_late_6 : decode cX5_late 6 = .ok (.iload_n 1, 1) := by decide +kernel
theorem dX5_late_7 : decode cX5_late 7 = .ok (.iconst 3, 1) := by decide +kernel
theorem dX5_late_8 : decode cX5_late 8 = .ok (.invokevirtual 48, 3) := by decide +kernel
theorem dX5_late_11 : decode cX5_late 11 = .ok (.isub, 1) := by decide +kernel
theorem dX5_late_12 : decode cX5_late 12 = .ok (.istore_n 2, 1) := by decide +kernel
theorem dX5_late_13 : decode cX5_late 13 = .ok (.iload_n 2, 1) := by decide +kernel
theorem dX5_late_14 : decode cX5_late 14 = .ok (.ifCond .ge 7, 3) := by decide +kernel
theorem dX5_late_17 : decode cX5_late 17 = .ok (.iconst 0, 1) := by decide +kernel
theorem dX5_late_18 : decode cX5_late 18 = .ok (.goto 4, 3) := by decide +kernel
theorem dX5_late_21 : decode cX5_late 21 = .ok (.iload_n 2, 1) := by decide +kernel
theorem dX5_late_22 : decode cX5_late 22 = .ok (.ireturn, 1) := by decide +kernel
theorem dX5_waits_0 : decode cX5_waits 0 = .ok (.aload_n 0, 1) := by decide +kernel
theorem dX5_waits_1 : decode cX5_waits 1 = .ok (.getfield 25, 3) := by decide +kernel
theorem dX5_waits_4 : decode cX5_waits 4 = .ok (.iload_n 1, 1) := by decide +kernel
theorem dX5_waits_5 : decode cX5_waits 5 = .ok (.iaload, 1) := by decide +kernel
theorem dX5_waits_6 : decode cX5_waits 6 = .ok (.iload_n 1, 1) := by decide +kernel
theorem dX5_waits_7 : decode cX5_waits 7 = .ok (.ifCond .ne 7, 3) := by decide +kernel
theorem dX5_waits_10 : decode cX5_waits 10 = .ok (.iconst 0, 1) := by decide +kernel
theorem dX5_waits_11 : decode cX5_waits 11 = .ok (.goto 11, 3) := by decide +kernel
theorem dX5_waits_14 : decode cX5_waits 14 = .ok (.aload_n 0, 1) := by decide +kernel
theorem dX5_waits_15 : decode cX5_waits 15 = .ok (.getfield 28, 3) := by decide +kernel
theorem dX5_waits_18 : decode cX5_waits 18 = .ok (.iload_n 1, 1) := by decide +kernel
theorem dX5_waits_19 : decode cX5_waits 19 = .ok (.iconst 1, 1) := by decide +kernel
theorem dX5_waits_20 : decode cX5_waits 20 = .ok (.isub, 1) := by decide +kernel
theorem dX5_waits_21 : decode cX5_waits 21 = .ok (.iaload, 1) := by decide +kernel
theorem dX5_waits_22 : decode cX5_waits 22 = .ok (.isub, 1) := by decide +kernel
theorem dX5_waits_23 : decode cX5_waits 23 = .ok (.ireturn, 1) := by decide +kernel
set_option maxRecDepth 20000 in
theorem ggX5_sumOf_X5_its : GoodIn wsX5_sumOf wsX5_its := goodIn_r _ [6, 1, 29, 30, 31, 32, 33, 34, 35, 36, 37, 38, 39, 40, 41, 42] (by decide +kernel) (by decide +kernel)
set_option maxRecDepth 20000 in
theorem gX5_sumOf_X5_its : GoodIn wsX5_sumOf (wsV RX5 48 RX5 yX5_its wsX5_its) := goodIn_app (goodIn_of _ (by decide +kernel)) ggX5_sumOf_X5_its
set_option maxRecDepth 20000 in
theorem ggX5_sumOf_X5_late : GoodIn wsX5_sumOf wsX5_late := goodIn_r _ [10, 11, 12, 13, 5, 14, 15, 1, 2, 3, 4, 6, 29, 30, 31, 32, 33, 34, 35, 36, 37, 38, 39, 40, 41, 42] (by decide +kernel) (by decide +kernel)
set_option maxRecDepth 20000 in
theorem gX5_sumOf_X5_late : GoodIn wsX5_sumOf (wsV RX5 78 RX5 yX5_late wsX5_late) := goodIn_app (goodIn_of _ (by decide +kernel)) ggX5_sumOf_X5_late
set_option maxRecDepth 20000 in
theorem ggX5_sumOf_X5_washFor : GoodIn wsX5_sumOf wsX5_washFor := goodIn_r _ [19, 1, 2, 3, 4, 5, 6, 29, 30, 31, 32, 33, 34, 35, 36, 37, 38, 39, 40, 41, 42] (by decide +kernel) (by decide +kernel)
set_option maxRecDepth 20000 in
theorem gX5_sumOf_X5_washFor : GoodIn wsX5_sumOf (wsV RX5 63 RX5 yX5_washFor wsX5_washFor) := goodIn_app (goodIn_of _ (by decide +kernel)) ggX5_sumOf_X5_washFor
set_option maxRecDepth 20000 in
theorem ggX5_sumOf_X5_isOther : GoodIn wsX5_sumOf wsX5_isOther := goodIn_r _ [23, 2, 3, 4, 5, 6, 1, 29, 30, 31, 32, 33, 34, 35, 36, 37, 38, 39, 40, 41, 42] (by decide +kernel) (by decide +kernel)
set_option maxRecDepth 20000 in
theorem gX5_sumOf_X5_isOther : GoodIn wsX5_sumOf (wsV RX5 81 RX5 yX5_isOther wsX5_isOther) := goodIn_app (goodIn_of _ (by decide +kernel)) ggX5_sumOf_X5_isOther
set_option maxRecDepth 20000 in
theorem ggX5_sumOf_X5_waits : GoodIn wsX5_sumOf wsX5_waits := goodIn_r _ [27, 28, 15, 29, 30, 31, 32, 33, 34, 35, 36, 37, 38, 39, 40, 41, 42] (by decide +kernel) (by decide +kernel)
set_option maxRecDepth 20000 in
theorem gX5_sumOf_X5_waits : GoodIn wsX5_sumOf (wsV RX5 84 RX5 yX5_waits wsX5_waits) := goodIn_app (goodIn_of _ (by decide +kernel)) ggX5_sumOf_X5_waits
theorem dX5_sumOf_0 : decode cX5_sumOf 0 = .ok (.iconst 0, 1) := by decide +kernel
theorem dX5_sumOf_1 : decode cX5_sumOf 1 = .ok (.istore_n 2, 1) := by decide +kernel
theorem dX5_sumOf_2 : decode cX5_sumOf 2 = .ok (.iconst 0, 1) := by decide +kernel
theorem dX5_sumOf_3 : decode cX5_sumOf 3 = .ok (.istore_n 3, 1) := by decide +kernel
theorem dX5_sumOf_4 : decode cX5_sumOf 4 = .ok (.iload_n 3, 1) := by decide +kernel
theorem dX5_sumOf_5 : decode cX5_sumOf 5 = .ok (.aload_n 0, 1) := by decide +kernel
theorem dX5_sumOf_6 : decode cX5_sumOf 6 = .ok (.getfield 7, 3) := by decide +kernel
theorem dX5_sumOf_9 : decode cX5_sumOf 9 = .ok (.bipush 7, 2) := by decide +kernel
theorem dX5_sumOf_11 : decode cX5_sumOf 11 = .ok (.iaload, 1) := by decide +kernel
theorem dX5_sumOf_12 : decode cX5_sumOf 12 = .ok (.if_icmp .ge 96, 3) := by decide +kernel
theorem dX5_sumOf_15 : decode cX5_sumOf 15 = .ok (.iload_n 2, 1) := by decide +kernel
theorem dX5_sumOf_16 : decode cX5_sumOf 16 = .ok (.iload_n 1, 1) := by decide +kernel
theorem dX5_sumOf_17 : decode cX5_sumOf 17 = .ok (.bipush 8, 2) := by decide +kernel
theorem dX5_sumOf_19 : decode cX5_sumOf 19 = .ok (.if_icmp .ne 12, 3) := by decide +kernel
theorem dX5_sumOf_22 : decode cX5_sumOf 22 = .ok (.aload_n 0, 1) := by decide +kernel
theorem dX5_sumOf_23 : decode cX5_sumOf 23 = .ok (.iload_n 3, 1) := by decide +kernel
theorem dX5_sumOf_24 : decode cX5_sumOf 24 = .ok (.iconst 2, 1) := by decide +kernel
theorem dX5_sumOf_25 : decode cX5_sumOf 25 = .ok (.invokevirtual 48, 3) := by decide +kernel
theorem dX5_sumOf_28 : decode cX5_sumOf 28 = .ok (.goto 72, 3) := by decide +kernel
theorem dX5_sumOf_31 : decode cX5_sumOf 31 = .ok (.iload_n 1, 1) := by decide +kernel
theorem dX5_sumOf_32 : decode cX5_sumOf 32 = .ok (.bipush 11, 2) := by decide +kernel
theorem dX5_sumOf_34 : decode cX5_sumOf 34 = .ok (.if_icmp .ne 19, 3) := by decide +kernel
theorem dX5_sumOf_37 : decode cX5_sumOf 37 = .ok (.aload_n 0, 1) := by decide +kernel
theorem dX5_sumOf_38 : decode cX5_sumOf 38 = .ok (.iload_n 3, 1) := by decide +kernel
theorem dX5_sumOf_39 : decode cX5_sumOf 39 = .ok (.invokevirtual 78, 3) := by decide +kernel
theorem dX5_sumOf_42 : decode cX5_sumOf 42 = .ok (.ifCond .le 7, 3) := by decide +kernel
theorem dX5_sumOf_45 : decode cX5_sumOf 45 = .ok (.iconst 1, 1) := by decide +kernel
theorem dX5_sumOf_46 : decode cX5_sumOf 46 = .ok (.goto 54, 3) := by decide +kernel
theorem dX5_sumOf_49 : decode cX5_sumOf 49 = .ok (.iconst 0, 1) := by decide +kernel
theorem dX5_sumOf_50 : decode cX5_sumOf 50 = .ok (.goto 50, 3) := by decide +kernel
theorem dX5_sumOf_53 : decode cX5_sumOf 53 = .ok (.iload_n 1, 1) := by decide +kernel
theorem dX5_sumOf_54 : decode cX5_sumOf 54 = .ok (.bipush 12, 2) := by decide +kernel
theorem dX5_sumOf_56 : decode cX5_sumOf 56 = .ok (.if_icmp .ne 11, 3) := by decide +kernel
theorem dX5_sumOf_59 : decode cX5_sumOf 59 = .ok (.aload_n 0, 1) := by decide +kernel
theorem dX5_sumOf_60 : decode cX5_sumOf 60 = .ok (.iload_n 3, 1) := by decide +kernel
theorem dX5_sumOf_61 : decode cX5_sumOf 61 = .ok (.invokevirtual 78, 3) := by decide +kernel
theorem dX5_sumOf_64 : decode cX5_sumOf 64 = .ok (.goto 36, 3) := by decide +kernel
theorem dX5_sumOf_67 : decode cX5_sumOf 67 = .ok (.iload_n 1, 1) := by decide +kernel
theorem dX5_sumOf_68 : decode cX5_sumOf 68 = .ok (.bipush 14, 2) := by decide +kernel
theorem dX5_sumOf_70 : decode cX5_sumOf 70 = .ok (.if_icmp .ne 11, 3) := by decide +kernel
theorem dX5_sumOf_73 : decode cX5_sumOf 73 = .ok (.aload_n 0, 1) := by decide +kernel
theorem dX5_sumOf_74 : decode cX5_sumOf 74 = .ok (.iload_n 3, 1) := by decide +kernel
theorem dX5_sumOf_75 : decode cX5_sumOf 75 = .ok (.invokevirtual 63, 3) := by decide +kernel
theorem dX5_sumOf_78 : decode cX5_sumOf 78 = .ok (.goto 22, 3) := by decide +kernel
theorem dX5_sumOf_81 : decode cX5_sumOf 81 = .ok (.iload_n 1, 1) := by decide +kernel
theorem dX5_sumOf_82 : decode cX5_sumOf 82 = .ok (.bipush 15, 2) := by decide +kernel
theorem dX5_sumOf_84 : decode cX5_sumOf 84 = .ok (.if_icmp .ne 11, 3) := by decide +kernel
theorem dX5_sumOf_87 : decode cX5_sumOf 87 = .ok (.aload_n 0, 1) := by decide +kernel
theorem dX5_sumOf_88 : decode cX5_sumOf 88 = .ok (.iload_n 3, 1) := by decide +kernel
theorem dX5_sumOf_89 : decode cX5_sumOf 89 = .ok (.invokevirtual 81, 3) := by decide +kernel
theorem dX5_sumOf_92 : decode cX5_sumOf 92 = .ok (.goto 8, 3) := by decide +kernel
theorem dX5_sumOf_95 : decode cX5_sumOf 95 = .ok (.aload_n 0, 1) := by decide +kernel
theorem dX5_sumOf_96 : decode cX5_sumOf 96 = .ok (.iload_n 3, 1) := by decide +kernel
theorem dX5_sumOf_97 : decode cX5_sumOf 97 = .ok (.invokevirtual 84, 3) := by decide +kernel
theorem dX5_sumOf_100 : decode cX5_sumOf 100 = .ok (.iadd, 1) := by decide +kernel
theorem dX5_sumOf_101 : decode cX5_sumOf 101 = .ok (.istore_n 2, 1) := by decide +kernel
theorem dX5_sumOf_102 : decode cX5_sumOf 102 = .ok (.iinc 3 1, 3) := by decide +kernel
theorem dX5_sumOf_105 : decode cX5_sumOf 105 = .ok (.goto (-101), 3) := by decide +kernel
theorem dX5_sumOf_108 : decode cX5_sumOf 108 = .ok (.iload_n 2, 1) := by decide +kernel
theorem dX5_sumOf_109 : decode cX5_sumOf 109 = .ok (.ireturn, 1) := by decide +kernel
set_option maxRecDepth 20000 in
theorem ggX5_isOther_X5_its : GoodIn wsX5_isOther wsX5_its := goodIn_r _ [5, 6, 7, 8, 9, 10, 11, 12, 13, 14, 15, 16, 17, 18, 19, 20] (by decide +kernel) (by decide +kernel)
set_option maxRecDepth 20000 in
theorem gX5_isOther_X5_its : GoodIn wsX5_isOther (wsV RX5 48 RX5 yX5_its wsX5_its) := goodIn_app (goodIn_of _ (by decide +kernel)) ggX5_isOther_X5_its
theorem dX5_isOther_0 : decode cX5_isOther 0 = .ok (.iload_n 1, 1) := by decide +kernel
theorem dX5_isOther_1 : decode cX5_isOther 1 = .ok (.ifCond .le 24, 3) := by decide +kernel
theorem dX5_isOther_4 : decode cX5_isOther 4 = .ok (.aload_n 0, 1) := by decide +kernel
theorem dX5_isOther_5 : decode cX5_isOther 5 = .ok (.iload_n 1, 1) := by decide +kernel
theorem dX5_isOther_6 : decode cX5_isOther 6 = .ok (.iconst 1, 1) := by decide +kernel
theorem dX5_isOther_7 : decode cX5_isOther 7 = .ok (.isub, 1) := by decide +kernel
theorem dX5_isOther_8 : decode cX5_isOther 8 = .ok (.iconst 0, 1) := by decide +kernel
theorem dX5_isOther_9 : decode cX5_isOther 9 = .ok (.invokevirtual 48, 3) := by decide +kernel
theorem dX5_isOther_12 : decode cX5_isOther 12 = .ok (.aload_n 0, 1) := by decide +kernel
theorem dX5_isOther_13 : decode cX5_isOther 13 = .ok (.iload_n 1, 1) := by decide +kernel
theorem dX5_isOther_14 : decode cX5_isOther 14 = .ok (.iconst 0, 1) := by decide +kernel
theorem dX5_isOther_15 : decode cX5_isOther 15 = .ok (.invokevirtual 48, 3) := by decide +kernel
theorem dX5_isOther_18 : decode cX5_isOther 18 = .ok (.if_icmp .ne 7, 3) := by decide +kernel
theorem dX5_isOther_21 : decode cX5_isOther 21 = .ok (.iconst 0, 1) := by decide +kernel
theorem dX5_isOther_22 : decode cX5_isOther 22 = .ok (.goto 4, 3) := by decide +kernel
theorem dX5_isOther_25 : decode cX5_isOther 25 = .ok (.iconst 1, 1) := by decide +kernel
theorem dX5_isOther_26 : decode cX5_isOther 26 = .ok (.ireturn, 1) := by decide +kernel
set_option maxRecDepth 20000 in
theorem ggX5_greatestOf_X5_dry : GoodIn wsX5_greatestOf wsX5_dry := goodIn_r _ [7, 2, 1, 28, 29, 30, 31, 32, 33, 34, 35, 36, 37, 38, 39, 40, 41] (by decide +kernel) (by decide +kernel)
set_option maxRecDepth 20000 in
theorem gX5_greatestOf_X5_dry : GoodIn wsX5_greatestOf (wsV RX5 66 RX5 yX5_dry wsX5_dry) := goodIn_app (goodIn_of _ (by decide +kernel)) ggX5_greatestOf_X5_dry
set_option maxRecDepth 20000 in
theorem ggX5_greatestOf_X5_late : GoodIn wsX5_greatestOf wsX5_late := goodIn_r _ [11, 3, 4, 5, 6, 7, 2, 1, 12, 13, 14, 15, 28, 29, 30, 31, 32, 33, 34, 35, 36, 37, 38, 39, 40, 41] (by decide +kernel) (by decide +kernel)
set_option maxRecDepth 20000 in
theorem gX5_greatestOf_X5_late : GoodIn wsX5_greatestOf (wsV RX5 78 RX5 yX5_late wsX5_late) := goodIn_app (goodIn_of _ (by decide +kernel)) ggX5_greatestOf_X5_late
set_option maxRecDepth 20000 in
theorem ggX5_greatestOf_X5_taken : GoodIn wsX5_greatestOf wsX5_taken := goodIn_r _ [19, 2, 3, 4, 5, 6, 7, 1, 20, 21, 22, 23, 12, 13, 14, 15, 24, 25, 26, 27, 28, 29, 30, 31, 32, 33, 34, 35, 36, 37, 38, 39, 40, 41] (by decide +kernel) (by decide +kernel)
set_option maxRecDepth 20000 in
theorem gX5_greatestOf_X5_taken : GoodIn wsX5_greatestOf (wsV RX5 75 RX5 yX5_taken wsX5_taken) := goodIn_app (goodIn_of _ (by decide +kernel)) ggX5_greatestOf_X5_taken
theorem dX5_greatestOf_0 : decode cX5_greatestOf 0 = .ok (.iconst 0, 1) := by decide +kernel
theorem dX5_greatestOf_1 : decode cX5_greatestOf 1 = .ok (.istore_n 2, 1) := by decide +kernel
theorem dX5_greatestOf_2 : decode cX5_greatestOf 2 = .ok (.iconst 0, 1) := by decide +kernel
theorem dX5_greatestOf_3 : decode cX5_greatestOf 3 = .ok (.istore_n 3, 1) := by decide +kernel
theorem dX5_greatestOf_4 : decode cX5_greatestOf 4 = .ok (.iload_n 3, 1) := by decide +kernel
theorem dX5_greatestOf_5 : decode cX5_greatestOf 5 = .ok (.aload_n 0, 1) := by decide +kernel
theorem dX5_greatestOf_6 : decode cX5_greatestOf 6 = .ok (.getfield 7, 3) := by decide +kernel
theorem dX5_greatestOf_9 : decode cX5_greatestOf 9 = .ok (.bipush 7, 2) := by decide +kernel
theorem dX5_greatestOf_11 : decode cX5_greatestOf 11 = .ok (.iaload, 1) := by decide +kernel
theorem dX5_greatestOf_12 : decode cX5_greatestOf 12 = .ok (.if_icmp .ge 84, 3) := by decide +kernel
theorem dX5_greatestOf_15 : decode cX5_greatestOf 15 = .ok (.iload_n 1, 1) := by decide +kernel
theorem dX5_greatestOf_16 : decode cX5_greatestOf 16 = .ok (.bipush 9, 2) := by decide +kernel
theorem dX5_greatestOf_18 : decode cX5_greatestOf 18 = .ok (.if_icmp .ne 12, 3) := by decide +kernel
theorem dX5_greatestOf_21 : decode cX5_greatestOf 21 = .ok (.aload_n 0, 1) := by decide +kernel
theorem dX5_greatestOf_22 : decode cX5_greatestOf 22 = .ok (.getfield 28, 3) := by decide +kernel
theorem dX5_greatestOf_25 : decode cX5_greatestOf 25 = .ok (.iload_n 3, 1) := by decide +kernel
theorem dX5_greatestOf_26 : decode cX5_greatestOf 26 = .ok (.iaload, 1) := by decide +kernel
theorem dX5_greatestOf_27 : decode cX5_greatestOf 27 = .ok (.goto 48, 3) := by decide +kernel
theorem dX5_greatestOf_30 : decode cX5_greatestOf 30 = .ok (.iload_n 1, 1) := by decide +kernel
theorem dX5_greatestOf_31 : decode cX5_greatestOf 31 = .ok (.bipush 10, 2) := by decide +kernel
theorem dX5_greatestOf_33 : decode cX5_greatestOf 33 = .ok (.if_icmp .ne 11, 3) := by decide +kernel
theorem dX5_greatestOf_36 : decode cX5_greatestOf 36 = .ok (.aload_n 0, 1) := by decide +kernel
theorem dX5_greatestOf_37 : decode cX5_greatestOf 37 = .ok (.iload_n 3, 1) := by decide +kernel
theorem dX5_greatestOf_38 : decode cX5_greatestOf 38 = .ok (.invokevirtual 66, 3) := by decide +kernel
theorem dX5_greatestOf_41 : decode cX5_greatestOf 41 = .ok (.goto 34, 3) := by decide +kernel
theorem dX5_greatestOf_44 : decode cX5_greatestOf 44 = .ok (.iload_n 1, 1) := by decide +kernel
theorem dX5_greatestOf_45 : decode cX5_greatestOf 45 = .ok (.bipush 13, 2) := by decide +kernel
theorem dX5_greatestOf_47 : decode cX5_greatestOf 47 = .ok (.if_icmp .ne 11, 3) := by decide +kernel
theorem dX5_greatestOf_50 : decode cX5_greatestOf 50 = .ok (.aload_n 0, 1) := by decide +kernel
theorem dX5_greatestOf_51 : decode cX5_greatestOf 51 = .ok (.iload_n 3, 1) := by decide +kernel
theorem dX5_greatestOf_52 : decode cX5_greatestOf 52 = .ok (.invokevirtual 78, 3) := by decide +kernel
theorem dX5_greatestOf_55 : decode cX5_greatestOf 55 = .ok (.goto 20, 3) := by decide +kernel
theorem dX5_greatestOf_58 : decode cX5_greatestOf 58 = .ok (.aload_n 0, 1) := by decide +kernel
theorem dX5_greatestOf_59 : decode cX5_greatestOf 59 = .ok (.aload_n 0, 1) := by decide +kernel
theorem dX5_greatestOf_60 : decode cX5_greatestOf 60 = .ok (.getfield 7, 3) := by decide +kernel
theorem dX5_greatestOf_63 : decode cX5_greatestOf 63 = .ok (.bipush 7, 2) := by decide +kernel
theorem dX5_greatestOf_65 : decode cX5_greatestOf 65 = .ok (.iaload, 1) := by decide +kernel
theorem dX5_greatestOf_66 : decode cX5_greatestOf 66 = .ok (.aload_n 0, 1) := by decide +kernel
theorem dX5_greatestOf_67 : decode cX5_greatestOf 67 = .ok (.getfield 28, 3) := by decide +kernel
theorem dX5_greatestOf_70 : decode cX5_greatestOf 70 = .ok (.iload_n 3, 1) := by decide +kernel
theorem dX5_greatestOf_71 : decode cX5_greatestOf 71 = .ok (.iaload, 1) := by decide +kernel
theorem dX5_greatestOf_72 : decode cX5_greatestOf 72 = .ok (.invokevirtual 75, 3) := by decide +kernel
theorem dX5_greatestOf_75 : decode cX5_greatestOf 75 = .ok (.istore 4, 2) := by decide +kernel
theorem dX5_greatestOf_77 : decode cX5_greatestOf 77 = .ok (.iload 4, 2) := by decide +kernel
theorem dX5_greatestOf_79 : decode cX5_greatestOf 79 = .ok (.iload_n 2, 1) := by decide +kernel
theorem dX5_greatestOf_80 : decode cX5_greatestOf 80 = .ok (.if_icmp .le 8, 3) := by decide +kernel
theorem dX5_greatestOf_83 : decode cX5_greatestOf 83 = .ok (.iload 4, 2) := by decide +kernel
theorem dX5_greatestOf_85 : decode cX5_greatestOf 85 = .ok (.goto 4, 3) := by decide +kernel
theorem dX5_greatestOf_88 : decode cX5_greatestOf 88 = .ok (.iload_n 2, 1) := by decide +kernel
theorem dX5_greatestOf_89 : decode cX5_greatestOf 89 = .ok (.istore_n 2, 1) := by decide +kernel
theorem dX5_greatestOf_90 : decode cX5_greatestOf 90 = .ok (.iinc 3 1, 3) := by decide +kernel
theorem dX5_greatestOf_93 : decode cX5_greatestOf 93 = .ok (.goto (-89), 3) := by decide +kernel
theorem dX5_greatestOf_96 : decode cX5_greatestOf 96 = .ok (.iload_n 2, 1) := by decide +kernel
theorem dX5_greatestOf_97 : decode cX5_greatestOf 97 = .ok (.ireturn, 1) := by decide +kernel
set_option maxRecDepth 20000 in
theorem ggX5_lateAll_X5_prints : GoodIn wsX5_lateAll wsX5_prints := goodIn_r _ [5, 6, 7, 8, 9, 10, 11, 4, 12, 13, 14, 15, 16, 17, 18, 19, 20, 21, 22, 23, 24, 25, 26, 27, 28, 29, 30, 31, 32, 33, 34, 35, 36, 37, 38, 39, 40, 57, 58, 59, 60, 61, 62, 63, 64, 65, 66, 67, 68, 69, 70] (by decide +kernel) (by decide +kernel)
set_option maxRecDepth 20000 in
theorem gX5_lateAll_X5_prints : GoodIn wsX5_lateAll (wsV RX5 87 RX5 yX5_prints wsX5_prints) := goodIn_app (goodIn_of _ (by decide +kernel)) ggX5_lateAll_X5_prints
set_option maxRecDepth 20000 in
theorem ggX5_lateAll_X5_sumOf : GoodIn wsX5_lateAll wsX5_sumOf := goodIn_r _ [44, 6, 17, 18, 19, 4, 20, 45, 46, 47, 48, 29, 30, 31, 32, 8, 21, 22, 23, 24, 49, 50, 51, 52, 53, 54, 55, 56, 7, 57, 58, 59, 60, 61, 62, 63, 64, 65, 66, 67, 68, 69, 70] (by decide +kernel) (by decide +kernel)
set_option maxRecDepth 20000 in
theorem gX5_lateAll_X5_sumOf : GoodIn wsX5_lateAll (wsV RX5 90 RX5 yX5_sumOf wsX5_sumOf) := goodIn_app (goodIn_of _ (by decide +kernel)) ggX5_lateAll_X5_sumOf
theorem dX5_lateAll_0 : decode cX5_lateAll 0 = .ok (.aload_n 0, 1) := by decide +kernel
theorem dX5_lateAll_1 : decode cX5_lateAll 1 = .ok (.invokevirtual 87, 3) := by decide +kernel
theorem dX5_lateAll_4 : decode cX5_lateAll 4 = .ok (.aload_n 0, 1) := by decide +kernel
theorem dX5_lateAll_5 : decode cX5_lateAll 5 = .ok (.bipush 12, 2) := by decide +kernel
theorem dX5_lateAll_7 : decode cX5_lateAll 7 = .ok (.invokevirtual 90, 3) := by decide +kernel
theorem dX5_lateAll_10 : decode cX5_lateAll 10 = .ok (.ireturn, 1) := by decide +kernel
set_option maxRecDepth 20000 in
theorem ggX5_isSetting_X5_in : GoodIn wsX5_isSetting wsX5_in := goodIn_r _ [10] (by decide +kernel) (by decide +kernel)
set_option maxRecDepth 20000 in
theorem gX5_isSetting_X5_in : GoodIn wsX5_isSetting (va_wsS RX5 44 yX5_in wsX5_in) := goodIn_app (goodIn_of _ (by decide +kernel)) ggX5_isSetting_X5_in
theorem dX5_isSetting_0 : decode cX5_isSetting 0 = .ok (.iload_n 0, 1) := by decide +kernel
theorem dX5_isSetting_1 : decode cX5_isSetting 1 = .ok (.tableswitch 105 0 6 #[43, 43, 53, 63, 73, 83, 95], 43) := by decide +kernel
theorem dX5_isSetting_44 : decode cX5_isSetting 44 = .ok (.iload_n 1, 1) := by decide +kernel
theorem dX5_isSetting_45 : decode cX5_isSetting 45 = .ok (.i2l, 1) := by decide +kernel
theorem dX5_isSetting_46 : decode cX5_isSetting 46 = .ok (.lconst 0, 1) := by decide +kernel
theorem dX5_isSetting_47 : decode cX5_isSetting 47 = .ok (.ldc2_w 93, 3) := by decide +kernel
theorem dX5_isSetting_50 : decode cX5_isSetting 50 = .ok (.invokestatic 44, 3) := by decide +kernel
theorem dX5_isSetting_53 : decode cX5_isSetting 53 = .ok (.ireturn, 1) := by decide +kernel
theorem dX5_isSetting_54 : decode cX5_isSetting 54 = .ok (.iload_n 1, 1) := by decide +kernel
theorem dX5_isSetting_55 : decode cX5_isSetting 55 = .ok (.i2l, 1) := by decide +kernel
theorem dX5_isSetting_56 : decode cX5_isSetting 56 = .ok (.lconst 0, 1) := by decide +kernel
theorem dX5_isSetting_57 : decode cX5_isSetting 57 = .ok (.ldc2_w 95, 3) := by decide +kernel
theorem dX5_isSetting_60 : decode cX5_isSetting 60 = .ok (.invokestatic 44, 3) := by decide +kernel
theorem dX5_isSetting_63 : decode cX5_isSetting 63 = .ok (.ireturn, 1) := by decide +kernel
theorem dX5_isSetting_64 : decode cX5_isSetting 64 = .ok (.iload_n 1, 1) := by decide +kernel
theorem dX5_isSetting_65 : decode cX5_isSetting 65 = .ok (.i2l, 1) := by decide +kernel
theorem dX5_isSetting_66 : decode cX5_isSetting 66 = .ok (.lconst 1, 1) := by decide +kernel
theorem dX5_isSetting_67 : decode cX5_isSetting 67 = .ok (.ldc2_w 97, 3) := by decide +kernel
theorem dX5_isSetting_70 : decode cX5_isSetting 70 = .ok (.invokestatic 44, 3) := by decide +kernel
theorem dX5_isSetting_73 : decode cX5_isSetting 73 = .ok (.ireturn, 1) := by decide +kernel
theorem dX5_isSetting_74 : decode cX5_isSetting 74 = .ok (.iload_n 1, 1) := by decide +kernel
theorem dX5_isSetting_75 : decode cX5_isSetting 75 = .ok (.i2l, 1) := by decide +kernel
theorem dX5_isSetting_76 : decode cX5_isSetting 76 = .ok (.lconst 0, 1) := by decide +kernel
theorem dX5_isSetting_77 : decode cX5_isSetting 77 = .ok (.ldc2_w 99, 3) := by decide +kernel
theorem dX5_isSetting_80 : decode cX5_isSetting 80 = .ok (.invokestatic 44, 3) := by decide +kernel
theorem dX5_isSetting_83 : decode cX5_isSetting 83 = .ok (.ireturn, 1) := by decide +kernel
theorem dX5_isSetting_84 : decode cX5_isSetting 84 = .ok (.iload_n 1, 1) := by decide +kernel
theorem dX5_isSetting_85 : decode cX5_isSetting 85 = .ok (.i2l, 1) := by decide +kernel
theorem dX5_isSetting_86 : decode cX5_isSetting 86 = .ok (.ldc2_w 101, 3) := by decide +kernel
theorem dX5_isSetting_89 : decode cX5_isSetting 89 = .ok (.ldc2_w 97, 3) := by decide +kernel
theorem dX5_isSetting_92 : decode cX5_isSetting 92 = .ok (.invokestatic 44, 3) := by decide +kernel
theorem dX5_isSetting_95 : decode cX5_isSetting 95 = .ok (.ireturn, 1) := by decide +kernel
theorem dX5_isSetting_96 : decode cX5_isSetting 96 = .ok (.iload_n 1, 1) := by decide +kernel
theorem dX5_isSetting_97 : decode cX5_isSetting 97 = .ok (.i2l, 1) := by decide +kernel
theorem dX5_isSetting_98 : decode cX5_isSetting 98 = .ok (.lconst 1, 1) := by decide +kernel
theorem dX5_isSetting_99 : decode cX5_isSetting 99 = .ok (.ldc2_w 103, 3) := by decide +kernel
theorem dX5_isSetting_102 : decode cX5_isSetting 102 = .ok (.invokestatic 44, 3) := by decide +kernel
theorem dX5_isSetting_105 : decode cX5_isSetting 105 = .ok (.ireturn, 1) := by decide +kernel
theorem dX5_isSetting_106 : decode cX5_isSetting 106 = .ok (.iconst 0, 1) := by decide +kernel
theorem dX5_isSetting_107 : decode cX5_isSetting 107 = .ok (.ireturn, 1) := by decide +kernel
set_option maxRecDepth 20000 in
theorem ggX5_mostNeeded_X5_racksOf : GoodIn wsX5_mostNeeded wsX5_racksOf := goodIn_r _ [6, 7, 8, 9, 5, 10, 1, 11, 12, 13, 14, 15, 16, 17, 18, 19, 20, 21, 22, 23, 24, 25, 26, 27, 28] (by decide +kernel) (by decide +kernel)
set_option maxRecDepth 20000 in
theorem gX5_mostNeeded_X5_racksOf : GoodIn wsX5_mostNeeded (wsV RX5 69 RX5 yX5_racksOf wsX5_racksOf) := goodIn_app (goodIn_of _ (by decide +kernel)) ggX5_mostNeeded_X5_racksOf
theorem dX5_mostNeeded_0 : decode cX5_mostNeeded 0 = .ok (.iconst 0, 1) := by decide +kernel
theorem dX5_mostNeeded_1 : decode cX5_mostNeeded 1 = .ok (.istore_n 1, 1) := by decide +kernel
theorem dX5_mostNeeded_2 : decode cX5_mostNeeded 2 = .ok (.iconst 0, 1) := by decide +kernel
theorem dX5_mostNeeded_3 : decode cX5_mostNeeded 3 = .ok (.istore_n 2, 1) := by decide +kernel
theorem dX5_mostNeeded_4 : decode cX5_mostNeeded 4 = .ok (.iload_n 2, 1) := by decide +kernel
theorem dX5_mostNeeded_5 : decode cX5_mostNeeded 5 = .ok (.aload_n 0, 1) := by decide +kernel
theorem dX5_mostNeeded_6 : decode cX5_mostNeeded 6 = .ok (.getfield 7, 3) := by decide +kernel
theorem dX5_mostNeeded_9 : decode cX5_mostNeeded 9 = .ok (.bipush 7, 2) := by decide +kernel
theorem dX5_mostNeeded_11 : decode cX5_mostNeeded 11 = .ok (.iaload, 1) := by decide +kernel
theorem dX5_mostNeeded_12 : decode cX5_mostNeeded 12 = .ok (.if_icmp .ge 28, 3) := by decide +kernel
theorem dX5_mostNeeded_15 : decode cX5_mostNeeded 15 = .ok (.aload_n 0, 1) := by decide +kernel
theorem dX5_mostNeeded_16 : decode cX5_mostNeeded 16 = .ok (.iload_n 2, 1) := by decide +kernel
theorem dX5_mostNeeded_17 : decode cX5_mostNeeded 17 = .ok (.invokevirtual 69, 3) := by decide +kernel
theorem dX5_mostNeeded_20 : decode cX5_mostNeeded 20 = .ok (.iload_n 1, 1) := by decide +kernel
theorem dX5_mostNeeded_21 : decode cX5_mostNeeded 21 = .ok (.if_icmp .le 11, 3) := by decide +kernel
theorem dX5_mostNeeded_24 : decode cX5_mostNeeded 24 = .ok (.aload_n 0, 1) := by decide +kernel
theorem dX5_mostNeeded_25 : decode cX5_mostNeeded 25 = .ok (.iload_n 2, 1) := by decide +kernel
theorem dX5_mostNeeded_26 : decode cX5_mostNeeded 26 = .ok (.invokevirtual 69, 3) := by decide +kernel
theorem dX5_mostNeeded_29 : decode cX5_mostNeeded 29 = .ok (.goto 4, 3) := by decide +kernel
theorem dX5_mostNeeded_32 : decode cX5_mostNeeded 32 = .ok (.iload_n 1, 1) := by decide +kernel
theorem dX5_mostNeeded_33 : decode cX5_mostNeeded 33 = .ok (.istore_n 1, 1) := by decide +kernel
theorem dX5_mostNeeded_34 : decode cX5_mostNeeded 34 = .ok (.iinc 2 1, 3) := by decide +kernel
theorem dX5_mostNeeded_37 : decode cX5_mostNeeded 37 = .ok (.goto (-33), 3) := by decide +kernel
theorem dX5_mostNeeded_40 : decode cX5_mostNeeded 40 = .ok (.iload_n 1, 1) := by decide +kernel
theorem dX5_mostNeeded_41 : decode cX5_mostNeeded 41 = .ok (.ireturn, 1) := by decide +kernel
set_option maxRecDepth 20000 in
theorem ggX5_set_X5_isSetting : GoodIn wsX5_set wsX5_isSetting := goodIn_r _ [5, 6, 7, 8, 9, 10, 11, 12, 13, 4, 14] (by decide +kernel) (by decide +kernel)
set_option maxRecDepth 20000 in
theorem gX5_set_X5_isSetting : GoodIn wsX5_set (va_wsS RX5 105 yX5_isSetting wsX5_isSetting) := goodIn_app (goodIn_of _ (by decide +kernel)) ggX5_set_X5_isSetting
set_option maxRecDepth 20000 in
theorem ggX5_set_X5_mostNeeded : GoodIn wsX5_set wsX5_mostNeeded := goodIn_r _ [18, 1, 19, 20, 21, 4, 22, 23, 24, 25, 26, 27, 28, 29, 30, 37, 38, 39, 40, 41, 42, 43, 44, 45, 46, 47, 48, 49, 50] (by decide +kernel) (by decide +kernel)
set_option maxRecDepth 20000 in
theorem gX5_set_X5_mostNeeded : GoodIn wsX5_set (wsV RX5 109 RX5 yX5_mostNeeded wsX5_mostNeeded) := goodIn_app (goodIn_of _ (by decide +kernel)) ggX5_set_X5_mostNeeded
set_option maxRecDepth 20000 in
theorem ggX5_set_X5_changes : GoodIn wsX5_set wsX5_changes := goodIn_r _ [34, 35, 36, 1, 37, 38, 39, 40, 41, 42, 43, 44, 45, 46, 47, 48, 49, 50] (by decide +kernel) (by decide +kernel)
set_option maxRecDepth 20000 in
theorem gX5_set_X5_changes : GoodIn wsX5_set (wsV RX5 113 RX5 yX5_changes wsX5_changes) := goodIn_app (goodIn_of _ (by decide +kernel)) ggX5_set_X5_changes
theorem dX5_set_0 : decode cX5_set 0 = .ok (.iload_n 1, 1) := by decide +kernel
theorem dX5_set_1 : decode cX5_set 1 = .ok (.iload_n 2, 1) := by decide +kernel
theorem dX5_set_2 : decode cX5_set 2 = .ok (.invokestatic 105, 3) := by decide +kernel
theorem dX5_set_5 : decode cX5_set 5 = .ok (.ifCond .ne 6, 3) := by decide +kernel
theorem dX5_set_8 : decode cX5_set 8 = .ok (.bipush (-2), 2) := by decide +kernel
theorem dX5_set_10 : decode cX5_set 10 = .ok (.ireturn, 1) := by decide +kernel
theorem dX5_set_11 : decode cX5_set 11 = .ok (.aload_n 0, 1) := by decide +kernel
theorem dX5_set_12 : decode cX5_set 12 = .ok (.getfield 7, 3) := by decide +kernel
theorem dX5_set_15 : decode cX5_set 15 = .ok (.iload_n 1, 1) := by decide +kernel
theorem dX5_set_16 : decode cX5_set 16 = .ok (.iaload, 1) := by decide +kernel
theorem dX5_set_17 : decode cX5_set 17 = .ok (.istore_n 3, 1) := by decide +kernel
theorem dX5_set_18 : decode cX5_set 18 = .ok (.aload_n 0, 1) := by decide +kernel
theorem dX5_set_19 : decode cX5_set 19 = .ok (.getfield 7, 3) := by decide +kernel
theorem dX5_set_22 : decode cX5_set 22 = .ok (.iload_n 1, 1) := by decide +kernel
theorem dX5_set_23 : decode cX5_set 23 = .ok (.iload_n 2, 1) := by decide +kernel
theorem dX5_set_24 : decode cX5_set 24 = .ok (.iastore, 1) := by decide +kernel
theorem dX5_set_25 : decode cX5_set 25 = .ok (.aload_n 0, 1) := by decide +kernel
theorem dX5_set_26 : decode cX5_set 26 = .ok (.invokevirtual 109, 3) := by decide +kernel
theorem dX5_set_29 : decode cX5_set 29 = .ok (.aload_n 0, 1) := by decide +kernel
theorem dX5_set_30 : decode cX5_set 30 = .ok (.getfield 7, 3) := by decide +kernel
theorem dX5_set_33 : decode cX5_set 33 = .ok (.iconst 5, 1) := by decide +kernel
theorem dX5_set_34 : decode cX5_set 34 = .ok (.iaload, 1) := by decide +kernel
theorem dX5_set_35 : decode cX5_set 35 = .ok (.if_icmp .gt 7, 3) := by decide +kernel
theorem dX5_set_38 : decode cX5_set 38 = .ok (.iconst 1, 1) := by decide +kernel
theorem dX5_set_39 : decode cX5_set 39 = .ok (.goto 4, 3) := by decide +kernel
theorem dX5_set_42 : decode cX5_set 42 = .ok (.iconst 0, 1) := by decide +kernel
theorem dX5_set_43 : decode cX5_set 43 = .ok (.istore 4, 2) := by decide +kernel
theorem dX5_set_45 : decode cX5_set 45 = .ok (.aload_n 0, 1) := by decide +kernel
theorem dX5_set_46 : decode cX5_set 46 = .ok (.getfield 7, 3) := by decide +kernel
theorem dX5_set_49 : decode cX5_set 49 = .ok (.iload_n 1, 1) := by decide +kernel
theorem dX5_set_50 : decode cX5_set 50 = .ok (.iload_n 3, 1) := by decide +kernel
theorem dX5_set_51 : decode cX5_set 51 = .ok (.iastore, 1) := by decide +kernel
theorem dX5_set_52 : decode cX5_set 52 = .ok (.iload 4, 2) := by decide +kernel
theorem dX5_set_54 : decode cX5_set 54 = .ok (.ifCond .ne 6, 3) := by decide +kernel
theorem dX5_set_57 : decode cX5_set 57 = .ok (.bipush (-5), 2) := by decide +kernel
theorem dX5_set_59 : decode cX5_set 59 = .ok (.ireturn, 1) := by decide +kernel
theorem dX5_set_60 : decode cX5_set 60 = .ok (.aload_n 0, 1) := by decide +kernel
theorem dX5_set_61 : decode cX5_set 61 = .ok (.invokevirtual 113, 3) := by decide +kernel
theorem dX5_set_64 : decode cX5_set 64 = .ok (.aload_n 0, 1) := by decide +kernel
theorem dX5_set_65 : decode cX5_set 65 = .ok (.getfield 7, 3) := by decide +kernel
theorem dX5_set_68 : decode cX5_set 68 = .ok (.iload_n 1, 1) := by decide +kernel
theorem dX5_set_69 : decode cX5_set 69 = .ok (.iload_n 2, 1) := by decide +kernel
theorem dX5_set_70 : decode cX5_set 70 = .ok (.iastore, 1) := by decide +kernel
theorem dX5_set_71 : decode cX5_set 71 = .ok (.iload_n 3, 1) := by decide +kernel
theorem dX5_set_72 : decode cX5_set 72 = .ok (.ireturn, 1) := by decide +kernel
theorem dX5_puts_0 : decode cX5_puts 0 = .ok (.bipush 8, 2) := by decide +kernel
theorem dX5_puts_2 : decode cX5_puts 2 = .ok (.iconst 4, 1) := by decide +kernel
theorem dX5_puts_3 : decode cX5_puts 3 = .ok (.aload_n 0, 1) := by decide +kernel
theorem dX5_puts_4 : decode cX5_puts 4 = .ok (.getfield 7, 3) := by decide +kernel
theorem dX5_puts_7 : decode cX5_puts 7 = .ok (.bipush 7, 2) := by decide +kernel
theorem dX5_puts_9 : decode cX5_puts 9 = .ok (.iaload, 1) := by decide +kernel
theorem dX5_puts_10 : decode cX5_puts 10 = .ok (.imul, 1) := by decide +kernel
theorem dX5_puts_11 : decode cX5_puts 11 = .ok (.iadd, 1) := by decide +kernel
theorem dX5_puts_12 : decode cX5_puts 12 = .ok (.istore 5, 2) := by decide +kernel
theorem dX5_puts_14 : decode cX5_puts 14 = .ok (.aload_n 0, 1) := by decide +kernel
theorem dX5_puts_15 : decode cX5_puts 15 = .ok (.getfield 7, 3) := by decide +kernel
theorem dX5_puts_18 : decode cX5_puts 18 = .ok (.iload 5, 2) := by decide +kernel
theorem dX5_puts_20 : decode cX5_puts 20 = .ok (.iconst 0, 1) := by decide +kernel
theorem dX5_puts_21 : decode cX5_puts 21 = .ok (.iadd, 1) := by decide +kernel
theorem dX5_puts_22 : decode cX5_puts 22 = .ok (.iload_n 1, 1) := by decide +kernel
theorem dX5_puts_23 : decode cX5_puts 23 = .ok (.iastore, 1) := by decide +kernel
theorem dX5_puts_24 : decode cX5_puts 24 = .ok (.aload_n 0, 1) := by decide +kernel
theorem dX5_puts_25 : decode cX5_puts 25 = .ok (.getfield 7, 3) := by decide +kernel
theorem dX5_puts_28 : decode cX5_puts 28 = .ok (.iload 5, 2) := by decide +kernel
theorem dX5_puts_30 : decode cX5_puts 30 = .ok (.iconst 1, 1) := by decide +kernel
theorem dX5_puts_31 : decode cX5_puts 31 = .ok (.iadd, 1) := by decide +kernel
theorem dX5_puts_32 : decode cX5_puts 32 = .ok (.iload_n 2, 1) := by decide +kernel
theorem dX5_puts_33 : decode cX5_puts 33 = .ok (.iastore, 1) := by decide +kernel
theorem dX5_puts_34 : decode cX5_puts 34 = .ok (.aload_n 0, 1) := by decide +kernel
theorem dX5_puts_35 : decode cX5_puts 35 = .ok (.getfield 7, 3) := by decide +kernel
theorem dX5_puts_38 : decode cX5_puts 38 = .ok (.iload 5, 2) := by decide +kernel
theorem dX5_puts_40 : decode cX5_puts 40 = .ok (.iconst 2, 1) := by decide +kernel
theorem dX5_puts_41 : decode cX5_puts 41 = .ok (.iadd, 1) := by decide +kernel
theorem dX5_puts_42 : decode cX5_puts 42 = .ok (.iload_n 3, 1) := by decide +kernel
theorem dX5_puts_43 : decode cX5_puts 43 = .ok (.iastore, 1) := by decide +kernel
theorem dX5_puts_44 : decode cX5_puts 44 = .ok (.aload_n 0, 1) := by decide +kernel
theorem dX5_puts_45 : decode cX5_puts 45 = .ok (.getfield 7, 3) := by decide +kernel
theorem dX5_puts_48 : decode cX5_puts 48 = .ok (.iload 5, 2) := by decide +kernel
theorem dX5_puts_50 : decode cX5_puts 50 = .ok (.iconst 3, 1) := by decide +kernel
theorem dX5_puts_51 : decode cX5_puts 51 = .ok (.iadd, 1) := by decide +kernel
theorem dX5_puts_52 : decode cX5_puts 52 = .ok (.iload 4, 2) := by decide +kernel
theorem dX5_puts_54 : decode cX5_puts 54 = .ok (.iastore, 1) := by decide +kernel
theorem dX5_puts_55 : decode cX5_puts 55 = .ok (.aload_n 0, 1) := by decide +kernel
theorem dX5_puts_56 : decode cX5_puts 56 = .ok (.getfield 7, 3) := by decide +kernel
theorem dX5_puts_59 : decode cX5_puts 59 = .ok (.bipush 7, 2) := by decide +kernel
theorem dX5_puts_61 : decode cX5_puts 61 = .ok (.dup2, 1) := by decide +kernel
theorem dX5_puts_62 : decode cX5_puts 62 = .ok (.iaload, 1) := by decide +kernel
theorem dX5_puts_63 : decode cX5_puts 63 = .ok (.iconst 1, 1) := by decide +kernel
theorem dX5_puts_64 : decode cX5_puts 64 = .ok (.iadd, 1) := by decide +kernel
theorem dX5_puts_65 : decode cX5_puts 65 = .ok (.iastore, 1) := by decide +kernel
theorem dX5_puts_66 : decode cX5_puts 66 = .ok (.return_, 1) := by decide +kernel
set_option maxRecDepth 20000 in
theorem ggX5_job_X5_in : GoodIn wsX5_job wsX5_in := goodIn_r _ [8] (by decide +kernel) (by decide +kernel)
set_option maxRecDepth 20000 in
theorem gX5_job_X5_in : GoodIn wsX5_job (va_wsS RX5 44 yX5_in wsX5_in) := goodIn_app (goodIn_of _ (by decide +kernel)) ggX5_job_X5_in
set_option maxRecDepth 20000 in
theorem ggX5_job_X5_racksFor : GoodIn wsX5_job wsX5_racksFor := goodIn_r _ [12, 4, 23, 24, 25, 26, 27, 28, 29, 30, 31, 32, 33, 34, 35, 36] (by decide +kernel) (by decide +kernel)
set_option maxRecDepth 20000 in
theorem gX5_job_X5_racksFor : GoodIn wsX5_job (wsV RX5 52 RX5 yX5_racksFor wsX5_racksFor) := goodIn_app (goodIn_of _ (by decide +kernel)) ggX5_job_X5_racksFor
set_option maxRecDepth 20000 in
theorem ggX5_job_X5_changes : GoodIn wsX5_job wsX5_changes := goodIn_r _ [16, 17, 18, 4, 23, 24, 25, 26, 27, 28, 29, 30, 31, 32, 33, 34, 35, 36] (by decide +kernel) (by decide +kernel)
set_option maxRecDepth 20000 in
theorem gX5_job_X5_changes : GoodIn wsX5_job (wsV RX5 113 RX5 yX5_changes wsX5_changes) := goodIn_app (goodIn_of _ (by decide +kernel)) ggX5_job_X5_changes
set_option maxRecDepth 20000 in
theorem ggX5_job_X5_puts : GoodIn wsX5_job wsX5_puts := goodIn_r _ [22, 4, 23, 24, 25, 26, 27, 28, 29, 30, 31, 32, 33, 34, 35, 36] (by decide +kernel) (by decide +kernel)
set_option maxRecDepth 20000 in
theorem gX5_job_X5_puts : GoodIn wsX5_job (wsV RX5 118 RX5 yX5_puts wsX5_puts) := goodIn_app (goodIn_of _ (by decide +kernel)) ggX5_job_X5_puts
theorem dX5_job_0 : decode cX5_job 0 = .ok (.iload_n 1, 1) := by decide +kernel
theorem dX5_job_1 : decode cX5_job 1 = .ok (.i2l, 1) := by decide +kernel
theorem dX5_job_2 : decode cX5_job 2 = .ok (.lconst 0, 1) := by decide +kernel
theorem dX5_job_3 : decode cX5_job 3 = .ok (.ldc2_w 95, 3) := by decide +kernel
theorem dX5_job_6 : decode cX5_job 6 = .ok (.invokestatic 44, 3) := by decide +kernel
theorem dX5_job_9 : decode cX5_job 9 = .ok (.ifCond .eq 40, 3) := by decide +kernel
theorem dX5_job_12 : decode cX5_job 12 = .ok (.iload_n 2, 1) := by decide +kernel
theorem dX5_job_13 : decode cX5_job 13 = .ok (.i2l, 1) := by decide +kernel
theorem dX5_job_14 : decode cX5_job 14 = .ok (.lconst 0, 1) := by decide +kernel
theorem dX5_job_15 : decode cX5_job 15 = .ok (.ldc2_w 95, 3) := by decide +kernel
theorem dX5_job_18 : decode cX5_job 18 = .ok (.invokestatic 44, 3) := by decide +kernel
theorem dX5_job_21 : decode cX5_job 21 = .ok (.ifCond .eq 28, 3) := by decide +kernel
theorem dX5_job_24 : decode cX5_job 24 = .ok (.iload_n 3, 1) := by decide +kernel
theorem dX5_job_25 : decode cX5_job 25 = .ok (.i2l, 1) := by decide +kernel
theorem dX5_job_26 : decode cX5_job 26 = .ok (.lconst 1, 1) := by decide +kernel
theorem dX5_job_27 : decode cX5_job 27 = .ok (.ldc2_w 97, 3) := by decide +kernel
theorem dX5_job_30 : decode cX5_job 30 = .ok (.invokestatic 44, 3) := by decide +kernel
theorem dX5_job_33 : decode cX5_job 33 = .ok (.ifCond .eq 16, 3) := by decide +kernel
theorem dX5_job_36 : decode cX5_job 36 = .ok (.iload 4, 2) := by decide +kernel
theorem dX5_job_38 : decode cX5_job 38 = .ok (.i2l, 1) := by decide +kernel
theorem dX5_job_39 : decode cX5_job 39 = .ok (.lconst 0, 1) := by decide +kernel
theorem dX5_job_40 : decode cX5_job 40 = .ok (.ldc2_w 116, 3) := by decide +kernel
theorem dX5_job_43 : decode cX5_job 43 = .ok (.invokestatic 44, 3) := by decide +kernel
theorem dX5_job_46 : decode cX5_job 46 = .ok (.ifCond .ne 6, 3) := by decide +kernel
theorem dX5_job_49 : decode cX5_job 49 = .ok (.bipush (-2), 2) := by decide +kernel
theorem dX5_job_51 : decode cX5_job 51 = .ok (.ireturn, 1) := by decide +kernel
theorem dX5_job_52 : decode cX5_job 52 = .ok (.aload_n 0, 1) := by decide +kernel
theorem dX5_job_53 : decode cX5_job 53 = .ok (.iload_n 3, 1) := by decide +kernel
theorem dX5_job_54 : decode cX5_job 54 = .ok (.invokevirtual 52, 3) := by decide +kernel
theorem dX5_job_57 : decode cX5_job 57 = .ok (.aload_n 0, 1) := by decide +kernel
theorem dX5_job_58 : decode cX5_job 58 = .ok (.getfield 7, 3) := by decide +kernel
theorem dX5_job_61 : decode cX5_job 61 = .ok (.iconst 5, 1) := by decide +kernel
theorem dX5_job_62 : decode cX5_job 62 = .ok (.iaload, 1) := by decide +kernel
theorem dX5_job_63 : decode cX5_job 63 = .ok (.if_icmp .le 6, 3) := by decide +kernel
theorem dX5_job_66 : decode cX5_job 66 = .ok (.bipush (-5), 2) := by decide +kernel
theorem dX5_job_68 : decode cX5_job 68 = .ok (.ireturn, 1) := by decide +kernel
theorem dX5_job_69 : decode cX5_job 69 = .ok (.aload_n 0, 1) := by decide +kernel
theorem dX5_job_70 : decode cX5_job 70 = .ok (.getfield 7, 3) := by decide +kernel
theorem dX5_job_73 : decode cX5_job 73 = .ok (.bipush 7, 2) := by decide +kernel
theorem dX5_job_75 : decode cX5_job 75 = .ok (.iaload, 1) := by decide +kernel
theorem dX5_job_76 : decode cX5_job 76 = .ok (.bipush 12, 2) := by decide +kernel
theorem dX5_job_78 : decode cX5_job 78 = .ok (.if_icmp .ne 6, 3) := by decide +kernel
theorem dX5_job_81 : decode cX5_job 81 = .ok (.bipush (-4), 2) := by decide +kernel
theorem dX5_job_83 : decode cX5_job 83 = .ok (.ireturn, 1) := by decide +kernel
theorem dX5_job_84 : decode cX5_job 84 = .ok (.aload_n 0, 1) := by decide +kernel
theorem dX5_job_85 : decode cX5_job 85 = .ok (.invokevirtual 113, 3) := by decide +kernel
theorem dX5_job_88 : decode cX5_job 88 = .ok (.aload_n 0, 1) := by decide +kernel
theorem dX5_job_89 : decode cX5_job 89 = .ok (.iload_n 1, 1) := by decide +kernel
theorem dX5_job_90 : decode cX5_job 90 = .ok (.iload_n 2, 1) := by decide +kernel
theorem dX5_job_91 : decode cX5_job 91 = .ok (.iload_n 3, 1) := by decide +kernel
theorem dX5_job_92 : decode cX5_job 92 = .ok (.iload 4, 2) := by decide +kernel
theorem dX5_job_94 : decode cX5_job 94 = .ok (.invokevirtual 118, 3) := by decide +kernel
theorem dX5_job_97 : decode cX5_job 97 = .ok (.aload_n 0, 1) := by decide +kernel
theorem dX5_job_98 : decode cX5_job 98 = .ok (.getfield 7, 3) := by decide +kernel
theorem dX5_job_101 : decode cX5_job 101 = .ok (.bipush 7, 2) := by decide +kernel
theorem dX5_job_103 : decode cX5_job 103 = .ok (.iaload, 1) := by decide +kernel
theorem dX5_job_104 : decode cX5_job 104 = .ok (.iconst 1, 1) := by decide +kernel
theorem dX5_job_105 : decode cX5_job 105 = .ok (.isub, 1) := by decide +kernel
theorem dX5_job_106 : decode cX5_job 106 = .ok (.ireturn, 1) := by decide +kernel
set_option maxRecDepth 20000 in
theorem ggX5_drop_X5_isJob : GoodIn wsX5_drop wsX5_isJob := goodIn_r _ [6, 1, 7, 8, 5, 9, 28, 29, 30, 31, 32, 33, 34, 35, 36, 37, 38, 39, 40, 41] (by decide +kernel) (by decide +kernel)
set_option maxRecDepth 20000 in
theorem gX5_drop_X5_isJob : GoodIn wsX5_drop (wsV RX5 122 RX5 yX5_isJob wsX5_isJob) := goodIn_app (goodIn_of _ (by decide +kernel)) ggX5_drop_X5_isJob
set_option maxRecDepth 20000 in
theorem ggX5_drop_X5_changes : GoodIn wsX5_drop wsX5_changes := goodIn_r _ [13, 14, 15, 1, 28, 29, 30, 31, 32, 33, 34, 35, 36, 37, 38, 39, 40, 41] (by decide +kernel) (by decide +kernel)
set_option maxRecDepth 20000 in
theorem gX5_drop_X5_changes : GoodIn wsX5_drop (wsV RX5 113 RX5 yX5_changes wsX5_changes) := goodIn_app (goodIn_of _ (by decide +kernel)) ggX5_drop_X5_changes
set_option maxRecDepth 20000 in
theorem ggX5_drop_X5_moves : GoodIn wsX5_drop wsX5_moves := goodIn_r _ [19, 20, 21, 22, 5, 23, 1, 24, 25, 26, 27, 28, 29, 30, 31, 32, 33, 34, 35, 36, 37, 38, 39, 40, 41] (by decide +kernel) (by decide +kernel)
set_option maxRecDepth 20000 in
theorem gX5_drop_X5_moves : GoodIn wsX5_drop (wsV RX5 126 RX5 yX5_moves wsX5_moves) := goodIn_app (goodIn_of _ (by decide +kernel)) ggX5_drop_X5_moves
theorem dX5_drop_0 : decode cX5_drop 0 = .ok (.aload_n 0, 1) := by decide +kernel
theorem dX5_drop_1 : decode cX5_drop 1 = .ok (.iload_n 1, 1) := by decide +kernel
theorem dX5_drop_2 : decode cX5_drop 2 = .ok (.invokevirtual 122, 3) := by decide +kernel
theorem dX5_drop_5 : decode cX5_drop 5 = .ok (.ifCond .ne 5, 3) := by decide +kernel
theorem dX5_drop_8 : decode cX5_drop 8 = .ok (.iconst (-1), 1) := by decide +kernel
theorem dX5_drop_9 : decode cX5_drop 9 = .ok (.ireturn, 1) := by decide +kernel
theorem dX5_drop_10 : decode cX5_drop 10 = .ok (.aload_n 0, 1) := by decide +kernel
theorem dX5_drop_11 : decode cX5_drop 11 = .ok (.invokevirtual 113, 3) := by decide +kernel
theorem dX5_drop_14 : decode cX5_drop 14 = .ok (.aload_n 0, 1) := by decide +kernel
theorem dX5_drop_15 : decode cX5_drop 15 = .ok (.iload_n 1, 1) := by decide +kernel
theorem dX5_drop_16 : decode cX5_drop 16 = .ok (.aload_n 0, 1) := by decide +kernel
theorem dX5_drop_17 : decode cX5_drop 17 = .ok (.getfield 7, 3) := by decide +kernel
theorem dX5_drop_20 : decode cX5_drop 20 = .ok (.bipush 7, 2) := by decide +kernel
theorem dX5_drop_22 : decode cX5_drop 22 = .ok (.iaload, 1) := by decide +kernel
theorem dX5_drop_23 : decode cX5_drop 23 = .ok (.iconst 1, 1) := by decide +kernel
theorem dX5_drop_24 : decode cX5_drop 24 = .ok (.isub, 1) := by decide +kernel
theorem dX5_drop_25 : decode cX5_drop 25 = .ok (.invokevirtual 126, 3) := by decide +kernel
theorem dX5_drop_28 : decode cX5_drop 28 = .ok (.aload_n 0, 1) := by decide +kernel
theorem dX5_drop_29 : decode cX5_drop 29 = .ok (.getfield 7, 3) := by decide +kernel
theorem dX5_drop_32 : decode cX5_drop 32 = .ok (.bipush 7, 2) := by decide +kernel
theorem dX5_drop_34 : decode cX5_drop 34 = .ok (.dup2, 1) := by decide +kernel
theorem dX5_drop_35 : decode cX5_drop 35 = .ok (.iaload, 1) := by decide +kernel
theorem dX5_drop_36 : decode cX5_drop 36 = .ok (.iconst 1, 1) := by decide +kernel
theorem dX5_drop_37 : decode cX5_drop 37 = .ok (.isub, 1) := by decide +kernel
theorem dX5_drop_38 : decode cX5_drop 38 = .ok (.iastore, 1) := by decide +kernel
theorem dX5_drop_39 : decode cX5_drop 39 = .ok (.iconst 0, 1) := by decide +kernel
theorem dX5_drop_40 : decode cX5_drop 40 = .ok (.istore_n 2, 1) := by decide +kernel
theorem dX5_drop_41 : decode cX5_drop 41 = .ok (.iload_n 2, 1) := by decide +kernel
theorem dX5_drop_42 : decode cX5_drop 42 = .ok (.iconst 4, 1) := by decide +kernel
theorem dX5_drop_43 : decode cX5_drop 43 = .ok (.if_icmp .ge 29, 3) := by decide +kernel
theorem dX5_drop_46 : decode cX5_drop 46 = .ok (.aload_n 0, 1) := by decide +kernel
theorem dX5_drop_47 : decode cX5_drop 47 = .ok (.getfield 7, 3) := by decide +kernel
theorem dX5_drop_50 : decode cX5_drop 50 = .ok (.bipush 8, 2) := by decide +kernel
theorem dX5_drop_52 : decode cX5_drop 52 = .ok (.iconst 4, 1) := by decide +kernel
theorem dX5_drop_53 : decode cX5_drop 53 = .ok (.aload_n 0, 1) := by decide +kernel
theorem dX5_drop_54 : decode cX5_drop 54 = .ok (.getfield 7, 3) := by decide +kernel
theorem dX5_drop_57 : decode cX5_drop 57 = .ok (.bipush 7, 2) := by decide +kernel
theorem dX5_drop_59 : decode cX5_drop 59 = .ok (.iaload, 1) := by decide +kernel
theorem dX5_drop_60 : decode cX5_drop 60 = .ok (.imul, 1) := by decide +kernel
theorem dX5_drop_61 : decode cX5_drop 61 = .ok (.iadd, 1) := by decide +kernel
theorem dX5_drop_62 : decode cX5_drop 62 = .ok (.iload_n 2, 1) := by decide +kernel
theorem dX5_drop_63 : decode cX5_drop 63 = .ok (.iadd, 1) := by decide +kernel
theorem dX5_drop_64 : decode cX5_drop 64 = .ok (.iconst 0, 1) := by decide +kernel
theorem dX5_drop_65 : decode cX5_drop 65 = .ok (.iastore, 1) := by decide +kernel
theorem dX5_drop_66 : decode cX5_drop 66 = .ok (.iinc 2 1, 3) := by decide +kernel
theorem dX5_drop_69 : decode cX5_drop 69 = .ok (.goto (-28), 3) := by decide +kernel
theorem dX5_drop_72 : decode cX5_drop 72 = .ok (.aload_n 0, 1) := by decide +kernel
theorem dX5_drop_73 : decode cX5_drop 73 = .ok (.getfield 7, 3) := by decide +kernel
theorem dX5_drop_76 : decode cX5_drop 76 = .ok (.bipush 7, 2) := by decide +kernel
theorem dX5_drop_78 : decode cX5_drop 78 = .ok (.iaload, 1) := by decide +kernel
theorem dX5_drop_79 : decode cX5_drop 79 = .ok (.ireturn, 1) := by decide +kernel
set_option maxRecDepth 20000 in
theorem ggX5_move_X5_isJob : GoodIn wsX5_move wsX5_isJob := goodIn_r _ [5, 6, 7, 8, 4, 9, 82, 83, 84, 85, 86, 87, 88, 89, 90, 91, 92, 93, 94, 95] (by decide +kernel) (by decide +kernel)
set_option maxRecDepth 20000 in
theorem gX5_move_X5_isJob : GoodIn wsX5_move (wsV RX5 122 RX5 yX5_isJob wsX5_isJob) := goodIn_app (goodIn_of _ (by decide +kernel)) ggX5_move_X5_isJob
set_option maxRecDepth 20000 in
theorem ggX5_move_X5_changes : GoodIn wsX5_move wsX5_changes := goodIn_r _ [13, 14, 15, 6, 82, 83, 84, 85, 86, 87, 88, 89, 90, 91, 92, 93, 94, 95] (by decide +kernel) (by decide +kernel)
set_option maxRecDepth 20000 in
theorem gX5_move_X5_changes : GoodIn wsX5_move (wsV RX5 113 RX5 yX5_changes wsX5_changes) := goodIn_app (goodIn_of _ (by decide +kernel)) ggX5_move_X5_changes
set_option maxRecDepth 20000 in
theorem ggX5_move_X5_moves : GoodIn wsX5_move wsX5_moves := goodIn_r _ [19, 20, 21, 22, 4, 23, 6, 24, 25, 26, 27, 82, 83, 84, 85, 86, 87, 88, 89, 90, 91, 92, 93, 94, 95] (by decide +kernel) (by decide +kernel)
set_option maxRecDepth 20000 in
theorem gX5_move_X5_moves : GoodIn wsX5_move (wsV RX5 126 RX5 yX5_moves wsX5_moves) := goodIn_app (goodIn_of _ (by decide +kernel)) ggX5_move_X5_moves
set_option maxRecDepth 20000 in
theorem ggX5_move_X5_lateAll : GoodIn wsX5_move wsX5_lateAll := goodIn_r _ [31, 32, 33, 34, 4, 35, 6, 36, 37, 38, 39, 40, 41, 42, 43, 44, 45, 24, 25, 26, 27, 46, 47, 48, 49, 50, 51, 52, 53, 54, 55, 56, 57, 58, 59, 60, 61, 62, 63, 64, 65, 66, 67, 68, 69, 70, 71, 72, 73, 74, 75, 76, 77, 78, 79, 80, 81, 82, 83, 84, 85, 86, 87, 88, 89, 90, 91, 92, 93, 94, 95] (by decide +kernel) (by decide +kernel)
set_option maxRecDepth 20000 in
theorem gX5_move_X5_lateAll : GoodIn wsX5_move (wsV RX5 129 RX5 yX5_lateAll wsX5_lateAll) := goodIn_app (goodIn_of _ (by decide +kernel)) ggX5_move_X5_lateAll
theorem dX5_move_0 : decode cX5_move 0 = .ok (.aload_n 0, 1) := by decide +kernel
theorem dX5_move_1 : decode cX5_move 1 = .ok (.iload_n 1, 1) := by decide +kernel
theorem dX5_move_2 : decode cX5_move 2 = .ok (.invokevirtual 122, 3) := by decide +kernel
theorem dX5_move_5 : decode cX5_move 5 = .ok (.ifCond .eq 11, 3) := by decide +kernel
theorem dX5_move_8 : decode cX5_move 8 = .ok (.aload_n 0, 1) := by decide +kernel
theorem dX5_move_9 : decode cX5_move 9 = .ok (.iload_n 2, 1) := by decide +kernel
theorem dX5_move_10 : decode cX5_move 10 = .ok (.invokevirtual 122, 3) := by decide +kernel
theorem dX5_move_13 : decode cX5_move 13 = .ok (.ifCond .ne 5, 3) := by decide +kernel
theorem dX5_move_16 : decode cX5_move 16 = .ok (.iconst (-1), 1) := by decide +kernel
theorem dX5_move_17 : decode cX5_move 17 = .ok (.ireturn, 1) := by decide +kernel
theorem dX5_move_18 : decode cX5_move 18 = .ok (.aload_n 0, 1) := by decide +kernel
theorem dX5_move_19 : decode cX5_move 19 = .ok (.invokevirtual 113, 3) := by decide +kernel
theorem dX5_move_22 : decode cX5_move 22 = .ok (.aload_n 0, 1) := by decide +kernel
theorem dX5_move_23 : decode cX5_move 23 = .ok (.iload_n 1, 1) := by decide +kernel
theorem dX5_move_24 : decode cX5_move 24 = .ok (.iload_n 2, 1) := by decide +kernel
theorem dX5_move_25 : decode cX5_move 25 = .ok (.invokevirtual 126, 3) := by decide +kernel
theorem dX5_move_28 : decode cX5_move 28 = .ok (.aload_n 0, 1) := by decide +kernel
theorem dX5_move_29 : decode cX5_move 29 = .ok (.invokevirtual 129, 3) := by decide +kernel
theorem dX5_move_32 : decode cX5_move 32 = .ok (.ireturn, 1) := by decide +kernel
set_option maxRecDepth 20000 in
theorem ggX5_due_X5_isJob : GoodIn wsX5_due wsX5_isJob := goodIn_r _ [7, 2, 8, 9, 6, 10, 59, 60, 61, 62, 63, 64, 65, 66, 67, 68, 69, 70, 71, 72] (by decide +kernel) (by decide +kernel)
set_option maxRecDepth 20000 in
theorem gX5_due_X5_isJob : GoodIn wsX5_due (wsV RX5 122 RX5 yX5_isJob wsX5_isJob) := goodIn_app (goodIn_of _ (by decide +kernel)) ggX5_due_X5_isJob
set_option maxRecDepth 20000 in
theorem ggX5_due_X5_in : GoodIn wsX5_due wsX5_in := goodIn_r _ [10] (by decide +kernel) (by decide +kernel)
set_option maxRecDepth 20000 in
theorem gX5_due_X5_in : GoodIn wsX5_due (va_wsS RX5 44 yX5_in wsX5_in) := goodIn_app (goodIn_of _ (by decide +kernel)) ggX5_due_X5_in
set_option maxRecDepth 20000 in
theorem ggX5_due_X5_changes : GoodIn wsX5_due wsX5_changes := goodIn_r _ [14, 15, 16, 2, 59, 60, 61, 62, 63, 64, 65, 66, 67, 68, 69, 70, 71, 72] (by decide +kernel) (by decide +kernel)
set_option maxRecDepth 20000 in
theorem gX5_due_X5_changes : GoodIn wsX5_due (wsV RX5 113 RX5 yX5_changes wsX5_changes) := goodIn_app (goodIn_of _ (by decide +kernel)) ggX5_due_X5_changes
set_option maxRecDepth 20000 in
theorem ggX5_due_X5_prints : GoodIn wsX5_due wsX5_prints := goodIn_r _ [20, 2, 21, 22, 23, 24, 25, 6, 26, 27, 28, 29, 30, 31, 32, 33, 34, 35, 36, 37, 38, 39, 40, 41, 42, 43, 44, 45, 46, 47, 48, 49, 50, 51, 52, 53, 54, 59, 60, 61, 62, 63, 64, 65, 66, 67, 68, 69, 70, 71, 72] (by decide +kernel) (by decide +kernel)
set_option maxRecDepth 20000 in
theorem gX5_due_X5_prints : GoodIn wsX5_due (wsV RX5 87 RX5 yX5_prints wsX5_prints) := goodIn_app (goodIn_of _ (by decide +kernel)) ggX5_due_X5_prints
set_option maxRecDepth 20000 in
theorem ggX5_due_X5_late : GoodIn wsX5_due wsX5_late := goodIn_r _ [58, 43, 44, 45, 6, 46, 22, 2, 31, 32, 33, 34, 59, 60, 61, 62, 63, 64, 65, 66, 67, 68, 69, 70, 71, 72] (by decide +kernel) (by decide +kernel)
set_option maxRecDepth 20000 in
theorem gX5_due_X5_late : GoodIn wsX5_due (wsV RX5 78 RX5 yX5_late wsX5_late) := goodIn_app (goodIn_of _ (by decide +kernel)) ggX5_due_X5_late
theorem dX5_due_0 : decode cX5_due 0 = .ok (.aload_n 0, 1) := by decide +kernel
theorem dX5_due_1 : decode cX5_due 1 = .ok (.iload_n 1, 1) := by decide +kernel
theorem dX5_due_2 : decode cX5_due 2 = .ok (.invokevirtual 122, 3) := by decide +kernel
theorem dX5_due_5 : decode cX5_due 5 = .ok (.ifCond .ne 5, 3) := by decide +kernel
theorem dX5_due_8 : decode cX5_due 8 = .ok (.iconst (-1), 1) := by decide +kernel
theorem dX5_due_9 : decode cX5_due 9 = .ok (.ireturn, 1) := by decide +kernel
theorem dX5_due_10 : decode cX5_due 10 = .ok (.iload_n 2, 1) := by decide +kernel
theorem dX5_due_11 : decode cX5_due 11 = .ok (.i2l, 1) := by decide +kernel
theorem dX5_due_12 : decode cX5_due 12 = .ok (.lconst 0, 1) := by decide +kernel
theorem dX5_due_13 : decode cX5_due 13 = .ok (.ldc2_w 116, 3) := by decide +kernel
theorem dX5_due_16 : decode cX5_due 16 = .ok (.invokestatic 44, 3) := by decide +kernel
theorem dX5_due_19 : decode cX5_due 19 = .ok (.ifCond .ne 6, 3) := by decide +kernel
theorem dX5_due_22 : decode cX5_due 22 = .ok (.bipush (-2), 2) := by decide +kernel
theorem dX5_due_24 : decode cX5_due 24 = .ok (.ireturn, 1) := by decide +kernel
theorem dX5_due_25 : decode cX5_due 25 = .ok (.aload_n 0, 1) := by decide +kernel
theorem dX5_due_26 : decode cX5_due 26 = .ok (.invokevirtual 113, 3) := by decide +kernel
theorem dX5_due_29 : decode cX5_due 29 = .ok (.aload_n 0, 1) := by decide +kernel
theorem dX5_due_30 : decode cX5_due 30 = .ok (.getfield 7, 3) := by decide +kernel
theorem dX5_due_33 : decode cX5_due 33 = .ok (.bipush 8, 2) := by decide +kernel
theorem dX5_due_35 : decode cX5_due 35 = .ok (.iconst 4, 1) := by decide +kernel
theorem dX5_due_36 : decode cX5_due 36 = .ok (.iload_n 1, 1) := by decide +kernel
theorem dX5_due_37 : decode cX5_due 37 = .ok (.imul, 1) := by decide +kernel
theorem dX5_due_38 : decode cX5_due 38 = .ok (.iadd, 1) := by decide +kernel
theorem dX5_due_39 : decode cX5_due 39 = .ok (.iconst 3, 1) := by decide +kernel
theorem dX5_due_40 : decode cX5_due 40 = .ok (.iadd, 1) := by decide +kernel
theorem dX5_due_41 : decode cX5_due 41 = .ok (.iload_n 2, 1) := by decide +kernel
theorem dX5_due_42 : decode cX5_due 42 = .ok (.iastore, 1) := by decide +kernel
theorem dX5_due_43 : decode cX5_due 43 = .ok (.aload_n 0, 1) := by decide +kernel
theorem dX5_due_44 : decode cX5_due 44 = .ok (.invokevirtual 87, 3) := by decide +kernel
theorem dX5_due_47 : decode cX5_due 47 = .ok (.aload_n 0, 1) := by decide +kernel
theorem dX5_due_48 : decode cX5_due 48 = .ok (.iload_n 1, 1) := by decide +kernel
theorem dX5_due_49 : decode cX5_due 49 = .ok (.invokevirtual 78, 3) := by decide +kernel
theorem dX5_due_52 : decode cX5_due 52 = .ok (.ireturn, 1) := by decide +kernel
theorem dX5_keyOf_0 : decode cX5_keyOf 0 = .ok (.iload_n 0, 1) := by decide +kernel
theorem dX5_keyOf_1 : decode cX5_keyOf 1 = .ok (.ifCond .ne 7, 3) := by decide +kernel
theorem dX5_keyOf_4 : decode cX5_keyOf 4 = .ok (.iconst 3, 1) := by decide +kernel
theorem dX5_keyOf_5 : decode cX5_keyOf 5 = .ok (.goto 22, 3) := by decide +kernel
theorem dX5_keyOf_8 : decode cX5_keyOf 8 = .ok (.iload_n 0, 1) := by decide +kernel
theorem dX5_keyOf_9 : decode cX5_keyOf 9 = .ok (.iconst 1, 1) := by decide +kernel
theorem dX5_keyOf_10 : decode cX5_keyOf 10 = .ok (.if_icmp .ne 7, 3) := by decide +kernel
theorem dX5_keyOf_13 : decode cX5_keyOf 13 = .ok (.iconst 1, 1) := by decide +kernel
theorem dX5_keyOf_14 : decode cX5_keyOf 14 = .ok (.goto 13, 3) := by decide +kernel
theorem dX5_keyOf_17 : decode cX5_keyOf 17 = .ok (.iload_n 0, 1) := by decide +kernel
theorem dX5_keyOf_18 : decode cX5_keyOf 18 = .ok (.iconst 2, 1) := by decide +kernel
theorem dX5_keyOf_19 : decode cX5_keyOf 19 = .ok (.if_icmp .ne 7, 3) := by decide +kernel
theorem dX5_keyOf_22 : decode cX5_keyOf 22 = .ok (.iconst 0, 1) := by decide +kernel
theorem dX5_keyOf_23 : decode cX5_keyOf 23 = .ok (.goto 4, 3) := by decide +kernel
theorem dX5_keyOf_26 : decode cX5_keyOf 26 = .ok (.iconst 2, 1) := by decide +kernel
theorem dX5_keyOf_27 : decode cX5_keyOf 27 = .ok (.ireturn, 1) := by decide +kernel
set_option maxRecDepth 20000 in
theorem ggX5_orders_X5_keyOf : GoodIn wsX5_orders wsX5_keyOf := goodIn_r _ [6] (by decide +kernel) (by decide +kernel)
set_option maxRecDepth 20000 in
theorem gX5_orders_X5_keyOf : GoodIn wsX5_orders (va_wsS RX5 132 yX5_keyOf wsX5_keyOf) := goodIn_app (goodIn_of _ (by decide +kernel)) ggX5_orders_X5_keyOf
set_option maxRecDepth 20000 in
theorem ggX5_orders_X5_its : GoodIn wsX5_orders wsX5_its := goodIn_r _ [10, 1, 15, 16, 17, 18, 19, 20, 21, 22, 23, 24, 25, 26, 27, 28] (by decide +kernel) (by decide +kernel)
set_option maxRecDepth 20000 in
theorem gX5_orders_X5_its : GoodIn wsX5_orders (wsV RX5 48 RX5 yX5_its wsX5_its) := goodIn_app (goodIn_of _ (by decide +kernel)) ggX5_orders_X5_its
set_option maxRecDepth 20000 in
theorem ggX5_orders_X5_exchanges : GoodIn wsX5_orders wsX5_exchanges := goodIn_r _ [14, 1, 7, 8, 9, 5, 10, 15, 16, 17, 18, 19, 20, 21, 22, 23, 24, 25, 26, 27, 28] (by decide +kernel) (by decide +kernel)
set_option maxRecDepth 20000 in
theorem gX5_orders_X5_exchanges : GoodIn wsX5_orders (wsV RX5 56 RX5 yX5_exchanges wsX5_exchanges) := goodIn_app (goodIn_of _ (by decide +kernel)) ggX5_orders_X5_exchanges
theorem dX5_orders_0 : decode cX5_orders 0 = .ok (.iconst 0, 1) := by decide +kernel
theorem dX5_orders_1 : decode cX5_orders 1 = .ok (.istore_n 2, 1) := by decide +kernel
theorem dX5_orders_2 : decode cX5_orders 2 = .ok (.iload_n 2, 1) := by decide +kernel
theorem dX5_orders_3 : decode cX5_orders 3 = .ok (.aload_n 0, 1) := by decide +kernel
theorem dX5_orders_4 : decode cX5_orders 4 = .ok (.getfield 7, 3) := by decide +kernel
theorem dX5_orders_7 : decode cX5_orders 7 = .ok (.bipush 7, 2) := by decide +kernel
theorem dX5_orders_9 : decode cX5_orders 9 = .ok (.iaload, 1) := by decide +kernel
theorem dX5_orders_10 : decode cX5_orders 10 = .ok (.if_icmp .ge 91, 3) := by decide +kernel
theorem dX5_orders_13 : decode cX5_orders 13 = .ok (.aload_n 0, 1) := by decide +kernel
theorem dX5_orders_14 : decode cX5_orders 14 = .ok (.getfield 31, 3) := by decide +kernel
theorem dX5_orders_17 : decode cX5_orders 17 = .ok (.iload_n 2, 1) := by decide +kernel
theorem dX5_orders_18 : decode cX5_orders 18 = .ok (.iload_n 2, 1) := by decide +kernel
theorem dX5_orders_19 : decode cX5_orders 19 = .ok (.iastore, 1) := by decide +kernel
theorem dX5_orders_20 : decode cX5_orders 20 = .ok (.iload_n 2, 1) := by decide +kernel
theorem dX5_orders_21 : decode cX5_orders 21 = .ok (.istore_n 3, 1) := by decide +kernel
theorem dX5_orders_22 : decode cX5_orders 22 = .ok (.iload_n 3, 1) := by decide +kernel
theorem dX5_orders_23 : decode cX5_orders 23 = .ok (.ifCond .le 72, 3) := by decide +kernel
theorem dX5_orders_26 : decode cX5_orders 26 = .ok (.aload_n 0, 1) := by decide +kernel
theorem dX5_orders_27 : decode cX5_orders 27 = .ok (.iload_n 3, 1) := by decide +kernel
theorem dX5_orders_28 : decode cX5_orders 28 = .ok (.iconst 1, 1) := by decide +kernel
theorem dX5_orders_29 : decode cX5_orders 29 = .ok (.isub, 1) := by decide +kernel
theorem dX5_orders_30 : decode cX5_orders 30 = .ok (.iload_n 1, 1) := by decide +kernel
theorem dX5_orders_31 : decode cX5_orders 31 = .ok (.invokestatic 132, 3) := by decide +kernel
theorem dX5_orders_34 : decode cX5_orders 34 = .ok (.invokevirtual 48, 3) := by decide +kernel
theorem dX5_orders_37 : decode cX5_orders 37 = .ok (.aload_n 0, 1) := by decide +kernel
theorem dX5_orders_38 : decode cX5_orders 38 = .ok (.iload_n 3, 1) := by decide +kernel
theorem dX5_orders_39 : decode cX5_orders 39 = .ok (.iload_n 1, 1) := by decide +kernel
