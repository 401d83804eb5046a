theorem dX0_init_0 : decode cX0_init 0 = .ok (.aload_n 0, 1) := by decide +kernel
theorem dX0_init_1 : decode cX0_init 1 = .ok (.invokespecial 3, 3) := by decide +kernel
theorem dX0_init_4 : decode cX0_init 4 = .ok (.aload_n 0, 1) := by decide +kernel
theorem dX0_init_5 : decode cX0_init 5 = .ok (.bipush 7, 2) := by decide +kernel
theorem dX0_init_7 : decode cX0_init 7 = .ok (.newarray .int, 2) := by decide +kernel
theorem dX0_init_9 : decode cX0_init 9 = .ok (.putfield 9, 3) := by decide +kernel
theorem dX0_init_12 : decode cX0_init 12 = .ok (.getstatic 15, 3) := by decide +kernel
theorem dX0_init_15 : decode cX0_init 15 = .ok (.iconst 0, 1) := by decide +kernel
theorem dX0_init_16 : decode cX0_init 16 = .ok (.aload_n 0, 1) := by decide +kernel
theorem dX0_init_17 : decode cX0_init 17 = .ok (.getfield 9, 3) := by decide +kernel
theorem dX0_init_20 : decode cX0_init 20 = .ok (.iconst 0, 1) := by decide +kernel
theorem dX0_init_21 : decode cX0_init 21 = .ok (.bipush 7, 2) := by decide +kernel
theorem dX0_init_23 : decode cX0_init 23 = .ok (.invokestatic 18, 3) := by decide +kernel
theorem dX0_init_26 : decode cX0_init 26 = .ok (.aload_n 0, 1) := by decide +kernel
theorem dX0_init_27 : decode cX0_init 27 = .ok (.iconst 4, 1) := by decide +kernel
theorem dX0_init_28 : decode cX0_init 28 = .ok (.bipush 12, 2) := by decide +kernel
theorem dX0_init_30 : decode cX0_init 30 = .ok (.multianewarray 24 2, 4) := by decide +kernel
theorem dX0_init_34 : decode cX0_init 34 = .ok (.putfield 26, 3) := by decide +kernel
theorem dX0_init_37 : decode cX0_init 37 = .ok (.return_, 1) := by decide +kernel
theorem dX0_copyFrom_0 : decode cX0_copyFrom 0 = .ok (.aload_n 1, 1) := by decide +kernel
theorem dX0_copyFrom_1 : decode cX0_copyFrom 1 = .ok (.getfield 9, 3) := by decide +kernel
theorem dX0_copyFrom_4 : decode cX0_copyFrom 4 = .ok (.iconst 0, 1) := by decide +kernel
theorem dX0_copyFrom_5 : decode cX0_copyFrom 5 = .ok (.aload_n 0, 1) := by decide +kernel
theorem dX0_copyFrom_6 : decode cX0_copyFrom 6 = .ok (.getfield 9, 3) := by decide +kernel
theorem dX0_copyFrom_9 : decode cX0_copyFrom 9 = .ok (.iconst 0, 1) := by decide +kernel
theorem dX0_copyFrom_10 : decode cX0_copyFrom 10 = .ok (.bipush 7, 2) := by decide +kernel
theorem dX0_copyFrom_12 : decode cX0_copyFrom 12 = .ok (.invokestatic 18, 3) := by decide +kernel
theorem dX0_copyFrom_15 : decode cX0_copyFrom 15 = .ok (.iconst 0, 1) := by decide +kernel
theorem dX0_copyFrom_16 : decode cX0_copyFrom 16 = .ok (.istore_n 2, 1) := by decide +kernel
theorem dX0_copyFrom_17 : decode cX0_copyFrom 17 = .ok (.iload_n 2, 1) := by decide +kernel
theorem dX0_copyFrom_18 : decode cX0_copyFrom 18 = .ok (.iconst 4, 1) := by decide +kernel
theorem dX0_copyFrom_19 : decode cX0_copyFrom 19 = .ok (.if_icmp .ge 28, 3) := by decide +kernel
theorem dX0_copyFrom_22 : decode cX0_copyFrom 22 = .ok (.aload_n 1, 1) := by decide +kernel
theorem dX0_copyFrom_23 : decode cX0_copyFrom 23 = .ok (.getfield 26, 3) := by decide +kernel
theorem dX0_copyFrom_26 : decode cX0_copyFrom 26 = .ok (.iload_n 2, 1) := by decide +kernel
theorem dX0_copyFrom_27 : decode cX0_copyFrom 27 = .ok (.aaload, 1) := by decide +kernel
theorem dX0_copyFrom_28 : decode cX0_copyFrom 28 = .ok (.iconst 0, 1) := by decide +kernel
theorem dX0_copyFrom_29 : decode cX0_copyFrom 29 = .ok (.aload_n 0, 1) := by decide +kernel
theorem dX0_copyFrom_30 : decode cX0_copyFrom 30 = .ok (.getfield 26, 3) := by decide +kernel
theorem dX0_copyFrom_33 : decode cX0_copyFrom 33 = .ok (.iload_n 2, 1) := by decide +kernel
theorem dX0_copyFrom_34 : decode cX0_copyFrom 34 = .ok (.aaload, 1) := by decide +kernel
theorem dX0_copyFrom_35 : decode cX0_copyFrom 35 = .ok (.iconst 0, 1) := by decide +kernel
theorem dX0_copyFrom_36 : decode cX0_copyFrom 36 = .ok (.bipush 12, 2) := by decide +kernel
theorem dX0_copyFrom_38 : decode cX0_copyFrom 38 = .ok (.invokestatic 18, 3) := by decide +kernel
theorem dX0_copyFrom_41 : decode cX0_copyFrom 41 = .ok (.iinc 2 1, 3) := by decide +kernel
theorem dX0_copyFrom_44 : decode cX0_copyFrom 44 = .ok (.goto (-27), 3) := by decide +kernel
theorem dX0_copyFrom_47 : decode cX0_copyFrom 47 = .ok (.aload_n 0, 1) := by decide +kernel
theorem dX0_copyFrom_48 : decode cX0_copyFrom 48 = .ok (.aload_n 1, 1) := by decide +kernel
theorem dX0_copyFrom_49 : decode cX0_copyFrom 49 = .ok (.getfield 29, 3) := by decide +kernel
theorem dX0_copyFrom_52 : decode cX0_copyFrom 52 = .ok (.putfield 29, 3) := by decide +kernel
theorem dX0_copyFrom_55 : decode cX0_copyFrom 55 = .ok (.return_, 1) := by decide +kernel
theorem dX0_append_0 : decode cX0_append 0 = .ok (.aload_n 0, 1) := by decide +kernel
theorem dX0_append_1 : decode cX0_append 1 = .ok (.getfield 29, 3) := by decide +kernel
theorem dX0_append_4 : decode cX0_append 4 = .ok (.bipush 12, 2) := by decide +kernel
theorem dX0_append_6 : decode cX0_append 6 = .ok (.if_icmp .lt 4, 3) := by decide +kernel
theorem dX0_append_9 : decode cX0_append 9 = .ok (.return_, 1) := by decide +kernel
theorem dX0_append_10 : decode cX0_append 10 = .ok (.aload_n 0, 1) := by decide +kernel
theorem dX0_append_11 : decode cX0_append 11 = .ok (.getfield 26, 3) := by decide +kernel
theorem dX0_append_14 : decode cX0_append 14 = .ok (.iconst 0, 1) := by decide +kernel
theorem dX0_append_15 : decode cX0_append 15 = .ok (.aaload, 1) := by decide +kernel
theorem dX0_append_16 : decode cX0_append 16 = .ok (.aload_n 0, 1) := by decide +kernel
theorem dX0_append_17 : decode cX0_append 17 = .ok (.getfield 29, 3) := by decide +kernel
theorem dX0_append_20 : decode cX0_append 20 = .ok (.iload_n 1, 1) := by decide +kernel
theorem dX0_append_21 : decode cX0_append 21 = .ok (.iastore, 1) := by decide +kernel
theorem dX0_append_22 : decode cX0_append 22 = .ok (.aload_n 0, 1) := by decide +kernel
theorem dX0_append_23 : decode cX0_append 23 = .ok (.getfield 26, 3) := by decide +kernel
theorem dX0_append_26 : decode cX0_append 26 = .ok (.iconst 1, 1) := by decide +kernel
theorem dX0_append_27 : decode cX0_append 27 = .ok (.aaload, 1) := by decide +kernel
theorem dX0_append_28 : decode cX0_append 28 = .ok (.aload_n 0, 1) := by decide +kernel
theorem dX0_append_29 : decode cX0_append 29 = .ok (.getfield 29, 3) := by decide +kernel
theorem dX0_append_32 : decode cX0_append 32 = .ok (.iload_n 2, 1) := by decide +kernel
theorem dX0_append_33 : decode cX0_append 33 = .ok (.iastore, 1) := by decide +kernel
theorem dX0_append_34 : decode cX0_append 34 = .ok (.aload_n 0, 1) := by decide +kernel
theorem dX0_append_35 : decode cX0_append 35 = .ok (.getfield 26, 3) := by decide +kernel
theorem dX0_append_38 : decode cX0_append 38 = .ok (.iconst 2, 1) := by decide +kernel
theorem dX0_append_39 : decode cX0_append 39 = .ok (.aaload, 1) := by decide +kernel
theorem dX0_append_40 : decode cX0_append 40 = .ok (.aload_n 0, 1) := by decide +kernel
theorem dX0_append_41 : decode cX0_append 41 = .ok (.getfield 29, 3) := by decide +kernel
theorem dX0_append_44 : decode cX0_append 44 = .ok (.iload_n 3, 1) := by decide +kernel
theorem dX0_append_45 : decode cX0_append 45 = .ok (.iastore, 1) := by decide +kernel
theorem dX0_append_46 : decode cX0_append 46 = .ok (.aload_n 0, 1) := by decide +kernel
theorem dX0_append_47 : decode cX0_append 47 = .ok (.getfield 26, 3) := by decide +kernel
theorem dX0_append_50 : decode cX0_append 50 = .ok (.iconst 3, 1) := by decide +kernel
theorem dX0_append_51 : decode cX0_append 51 = .ok (.aaload, 1) := by decide +kernel
theorem dX0_append_52 : decode cX0_append 52 = .ok (.aload_n 0, 1) := by decide +kernel
theorem dX0_append_53 : decode cX0_append 53 = .ok (.getfield 29, 3) := by decide +kernel
theorem dX0_append_56 : decode cX0_append 56 = .ok (.iload 4, 2) := by decide +kernel
theorem dX0_append_58 : decode cX0_append 58 = .ok (.iastore, 1) := by decide +kernel
theorem dX0_append_59 : decode cX0_append 59 = .ok (.aload_n 0, 1) := by decide +kernel
theorem dX0_append_60 : decode cX0_append 60 = .ok (.dup, 1) := by decide +kernel
theorem dX0_append_61 : decode cX0_append 61 = .ok (.getfield 29, 3) := by decide +kernel
theorem dX0_append_64 : decode cX0_append 64 = .ok (.iconst 1, 1) := by decide +kernel
theorem dX0_append_65 : decode cX0_append 65 = .ok (.iadd, 1) := by decide +kernel
theorem dX0_append_66 : decode cX0_append 66 = .ok (.putfield 29, 3) := by decide +kernel
theorem dX0_append_69 : decode cX0_append 69 = .ok (.return_, 1) := by decide +kernel
set_option maxRecDepth 20000 in
theorem ggX0_appendAll_X0_append : GoodIn wsX0_appendAll wsX0_append := goodIn_r _ [7, 1, 2, 8, 9, 10] (by decide +kernel) (by decide +kernel)
set_option maxRecDepth 20000 in
theorem gX0_appendAll_X0_append : GoodIn wsX0_appendAll (wsV RX0 33 RX0 yX0_append wsX0_append) := goodIn_app (goodIn_of _ (by decide +kernel)) ggX0_appendAll_X0_append
theorem dX0_appendAll_0 : decode cX0_appendAll 0 = .ok (.iconst 0, 1) := by decide +kernel
theorem dX0_appendAll_1 : decode cX0_appendAll 1 = .ok (.istore_n 2, 1) := by decide +kernel
theorem dX0_appendAll_2 : decode cX0_appendAll 2 = .ok (.iload_n 2, 1) := by decide +kernel
theorem dX0_appendAll_3 : decode cX0_appendAll 3 = .ok (.aload_n 1, 1) := by decide +kernel
theorem dX0_appendAll_4 : decode cX0_appendAll 4 = .ok (.getfield 29, 3) := by decide +kernel
theorem dX0_appendAll_7 : decode cX0_appendAll 7 = .ok (.if_icmp .ge 45, 3) := by decide +kernel
theorem dX0_appendAll_10 : decode cX0_appendAll 10 = .ok (.aload_n 0, 1) := by decide +kernel
theorem dX0_appendAll_11 : decode cX0_appendAll 11 = .ok (.aload_n 1, 1) := by decide +kernel
theorem dX0_appendAll_12 : decode cX0_appendAll 12 = .ok (.getfield 26, 3) := by decide +kernel
theorem dX0_appendAll_15 : decode cX0_appendAll 15 = .ok (.iconst 0, 1) := by decide +kernel
theorem dX0_appendAll_16 : decode cX0_appendAll 16 = .ok (.aaload, 1) := by decide +kernel
theorem dX0_appendAll_17 : decode cX0_appendAll 17 = .ok (.iload_n 2, 1) := by decide +kernel
theorem dX0_appendAll_18 : decode cX0_appendAll 18 = .ok (.iaload, 1) := by decide +kernel
theorem dX0_appendAll_19 : decode cX0_appendAll 19 = .ok (.aload_n 1, 1) := by decide +kernel
theorem dX0_appendAll_20 : decode cX0_appendAll 20 = .ok (.getfield 26, 3) := by decide +kernel
theorem dX0_appendAll_23 : decode cX0_appendAll 23 = .ok (.iconst 1, 1) := by decide +kernel
theorem dX0_appendAll_24 : decode cX0_appendAll 24 = .ok (.aaload, 1) := by decide +kernel
theorem dX0_appendAll_25 : decode cX0_appendAll 25 = .ok (.iload_n 2, 1) := by decide +kernel
theorem dX0_appendAll_26 : decode cX0_appendAll 26 = .ok (.iaload, 1) := by decide +kernel
theorem dX0_appendAll_27 : decode cX0_appendAll 27 = .ok (.aload_n 1, 1) := by decide +kernel
theorem dX0_appendAll_28 : decode cX0_appendAll 28 = .ok (.getfield 26, 3) := by decide +kernel
theorem dX0_appendAll_31 : decode cX0_appendAll 31 = .ok (.iconst 2, 1) := by decide +kernel
theorem dX0_appendAll_32 : decode cX0_appendAll 32 = .ok (.aaload, 1) := by decide +kernel
theorem dX0_appendAll_33 : decode cX0_appendAll 33 = .ok (.iload_n 2, 1) := by decide +kernel
theorem dX0_appendAll_34 : decode cX0_appendAll 34 = .ok (.iaload, 1) := by decide +kernel
theorem dX0_appendAll_35 : decode cX0_appendAll 35 = .ok (.aload_n 1, 1) := by decide +kernel
theorem dX0_appendAll_36 : decode cX0_appendAll 36 = .ok (.getfield 26, 3) := by decide +kernel
theorem dX0_appendAll_39 : decode cX0_appendAll 39 = .ok (.iconst 3, 1) := by decide +kernel
theorem dX0_appendAll_40 : decode cX0_appendAll 40 = .ok (.aaload, 1) := by decide +kernel
theorem dX0_appendAll_41 : decode cX0_appendAll 41 = .ok (.iload_n 2, 1) := by decide +kernel
theorem dX0_appendAll_42 : decode cX0_appendAll 42 = .ok (.iaload, 1) := by decide +kernel
theorem dX0_appendAll_43 : decode cX0_appendAll 43 = .ok (.invokevirtual 33, 3) := by decide +kernel
theorem dX0_appendAll_46 : decode cX0_appendAll 46 = .ok (.iinc 2 1, 3) := by decide +kernel
theorem dX0_appendAll_49 : decode cX0_appendAll 49 = .ok (.goto (-47), 3) := by decide +kernel
theorem dX0_appendAll_52 : decode cX0_appendAll 52 = .ok (.return_, 1) := by decide +kernel
set_option maxRecDepth 20000 in
theorem ggX0_remove_X0_shift : GoodIn wsX0_remove wsX0_shift := goodIn_r _ [6, 7, 8, 9, 10] (by decide +kernel) (by decide +kernel)
set_option maxRecDepth 20000 in
theorem gX0_remove_X0_shift : GoodIn wsX0_remove (wsV RX0 37 RX0 yX0_shift wsX0_shift) := goodIn_app (goodIn_of _ (by decide +kernel)) ggX0_remove_X0_shift
theorem dX0_remove_0 : decode cX0_remove 0 = .ok (.aload_n 0, 1) := by decide +kernel
theorem dX0_remove_1 : decode cX0_remove 1 = .ok (.iload_n 1, 1) := by decide +kernel
theorem dX0_remove_2 : decode cX0_remove 2 = .ok (.aload_n 0, 1) := by decide +kernel
theorem dX0_remove_3 : decode cX0_remove 3 = .ok (.getfield 29, 3) := by decide +kernel
theorem dX0_remove_6 : decode cX0_remove 6 = .ok (.iconst 1, 1) := by decide +kernel
theorem dX0_remove_7 : decode cX0_remove 7 = .ok (.isub, 1) := by decide +kernel
theorem dX0_remove_8 : decode cX0_remove 8 = .ok (.invokevirtual 37, 3) := by decide +kernel
theorem dX0_remove_11 : decode cX0_remove 11 = .ok (.aload_n 0, 1) := by decide +kernel
theorem dX0_remove_12 : decode cX0_remove 12 = .ok (.dup, 1) := by decide +kernel
theorem dX0_remove_13 : decode cX0_remove 13 = .ok (.getfield 29, 3) := by decide +kernel
theorem dX0_remove_16 : decode cX0_remove 16 = .ok (.iconst 1, 1) := by decide +kernel
theorem dX0_remove_17 : decode cX0_remove 17 = .ok (.isub, 1) := by decide +kernel
theorem dX0_remove_18 : decode cX0_remove 18 = .ok (.putfield 29, 3) := by decide +kernel
theorem dX0_remove_21 : decode cX0_remove 21 = .ok (.return_, 1) := by decide +kernel
theorem dX0_shift_0 : decode cX0_shift 0 = .ok (.aload_n 0, 1) := by decide +kernel
theorem dX0_shift_1 : decode cX0_shift 1 = .ok (.getfield 26, 3) := by decide +kernel
theorem dX0_shift_4 : decode cX0_shift 4 = .ok (.astore_n 3, 1) := by decide +kernel
theorem dX0_shift_5 : decode cX0_shift 5 = .ok (.aload_n 3, 1) := by decide +kernel
theorem dX0_shift_6 : decode cX0_shift 6 = .ok (.arraylength, 1) := by decide +kernel
theorem dX0_shift_7 : decode cX0_shift 7 = .ok (.istore 4, 2) := by decide +kernel
theorem dX0_shift_9 : decode cX0_shift 9 = .ok (.iconst 0, 1) := by decide +kernel
theorem dX0_shift_10 : decode cX0_shift 10 = .ok (.istore 5, 2) := by decide +kernel
theorem dX0_shift_12 : decode cX0_shift 12 = .ok (.iload 5, 2) := by decide +kernel
theorem dX0_shift_14 : decode cX0_shift 14 = .ok (.iload 4, 2) := by decide +kernel
theorem dX0_shift_16 : decode cX0_shift 16 = .ok (.if_icmp .ge 81, 3) := by decide +kernel
theorem dX0_shift_19 : decode cX0_shift 19 = .ok (.aload_n 3, 1) := by decide +kernel
theorem dX0_shift_20 : decode cX0_shift 20 = .ok (.iload 5, 2) := by decide +kernel
theorem dX0_shift_22 : decode cX0_shift 22 = .ok (.aaload, 1) := by decide +kernel
theorem dX0_shift_23 : decode cX0_shift 23 = .ok (.astore 6, 2) := by decide +kernel
theorem dX0_shift_25 : decode cX0_shift 25 = .ok (.aload 6, 2) := by decide +kernel
theorem dX0_shift_27 : decode cX0_shift 27 = .ok (.iload_n 1, 1) := by decide +kernel
theorem dX0_shift_28 : decode cX0_shift 28 = .ok (.iaload, 1) := by decide +kernel
theorem dX0_shift_29 : decode cX0_shift 29 = .ok (.istore 7, 2) := by decide +kernel
theorem dX0_shift_31 : decode cX0_shift 31 = .ok (.iload_n 1, 1) := by decide +kernel
theorem dX0_shift_32 : decode cX0_shift 32 = .ok (.istore 8, 2) := by decide +kernel
theorem dX0_shift_34 : decode cX0_shift 34 = .ok (.iload 8, 2) := by decide +kernel
theorem dX0_shift_36 : decode cX0_shift 36 = .ok (.iload_n 2, 1) := by decide +kernel
theorem dX0_shift_37 : decode cX0_shift 37 = .ok (.if_icmp .ge 21, 3) := by decide +kernel
theorem dX0_shift_40 : decode cX0_shift 40 = .ok (.aload 6, 2) := by decide +kernel
theorem dX0_shift_42 : decode cX0_shift 42 = .ok (.iload 8, 2) := by decide +kernel
theorem dX0_shift_44 : decode cX0_shift 44 = .ok (.aload 6, 2) := by decide +kernel
theorem dX0_shift_46 : decode cX0_shift 46 = .ok (.iload 8, 2) := by decide +kernel
theorem dX0_shift_48 : decode cX0_shift 48 = .ok (.iconst 1, 1) := by decide +kernel
theorem dX0_shift_49 : decode cX0_shift 49 = .ok (.iadd, 1) := by decide +kernel
theorem dX0_shift_50 : decode cX0_shift 50 = .ok (.iaload, 1) := by decide +kernel
theorem dX0_shift_51 : decode cX0_shift 51 = .ok (.iastore, 1) := by decide +kernel
theorem dX0_shift_52 : decode cX0_shift 52 = .ok (.iinc 8 1, 3) := by decide +kernel
theorem dX0_shift_55 : decode cX0_shift 55 = .ok (.goto (-21), 3) := by decide +kernel
theorem dX0_shift_58 : decode cX0_shift 58 = .ok (.iload_n 1, 1) := by decide +kernel
theorem dX0_shift_59 : decode cX0_shift 59 = .ok (.istore 8, 2) := by decide +kernel
theorem dX0_shift_61 : decode cX0_shift 61 = .ok (.iload 8, 2) := by decide +kernel
theorem dX0_shift_63 : decode cX0_shift 63 = .ok (.iload_n 2, 1) := by decide +kernel
theorem dX0_shift_64 : decode cX0_shift 64 = .ok (.if_icmp .le 21, 3) := by decide +kernel
theorem dX0_shift_67 : decode cX0_shift 67 = .ok (.aload 6, 2) := by decide +kernel
theorem dX0_shift_69 : decode cX0_shift 69 = .ok (.iload 8, 2) := by decide +kernel
theorem dX0_shift_71 : decode cX0_shift 71 = .ok (.aload 6, 2) := by decide +kernel
theorem dX0_shift_73 : decode cX0_shift 73 = .ok (.iload 8, 2) := by decide +kernel
theorem dX0_shift_75 : decode cX0_shift 75 = .ok (.iconst 1, 1) := by decide +kernel
theorem dX0_shift_76 : decode cX0_shift 76 = .ok (.isub, 1) := by decide +kernel
theorem dX0_shift_77 : decode cX0_shift 77 = .ok (.iaload, 1) := by decide +kernel
theorem dX0_shift_78 : decode cX0_shift 78 = .ok (.iastore, 1) := by decide +kernel
theorem dX0_shift_79 : decode cX0_shift 79 = .ok (.iinc 8 (-1), 3) := by decide +kernel
theorem dX0_shift_82 : decode cX0_shift 82 = .ok (.goto (-21), 3) := by decide +kernel
theorem dX0_shift_85 : decode cX0_shift 85 = .ok (.aload 6, 2) := by decide +kernel
theorem dX0_shift_87 : decode cX0_shift 87 = .ok (.iload_n 2, 1) := by decide +kernel
theorem dX0_shift_88 : decode cX0_shift 88 = .ok (.iload 7, 2) := by decide +kernel
theorem dX0_shift_90 : decode cX0_shift 90 = .ok (.iastore, 1) := by decide +kernel
theorem dX0_shift_91 : decode cX0_shift 91 = .ok (.iinc 5 1, 3) := by decide +kernel
theorem dX0_shift_94 : decode cX0_shift 94 = .ok (.goto (-82), 3) := by decide +kernel
theorem dX0_shift_97 : decode cX0_shift 97 = .ok (.return_, 1) := by decide +kernel
theorem dX0_exchange_0 : decode cX0_exchange 0 = .ok (.aload_n 0, 1) := by decide +kernel
theorem dX0_exchange_1 : decode cX0_exchange 1 = .ok (.getfield 26, 3) := by decide +kernel
theorem dX0_exchange_4 : decode cX0_exchange 4 = .ok (.astore_n 3, 1) := by decide +kernel
theorem dX0_exchange_5 : decode cX0_exchange 5 = .ok (.aload_n 3, 1) := by decide +kernel
theorem dX0_exchange_6 : decode cX0_exchange 6 = .ok (.arraylength, 1) := by decide +kernel
theorem dX0_exchange_7 : decode cX0_exchange 7 = .ok (.istore 4, 2) := by decide +kernel
theorem dX0_exchange_9 : decode cX0_exchange 9 = .ok (.iconst 0, 1) := by decide +kernel
theorem dX0_exchange_10 : decode cX0_exchange 10 = .ok (.istore 5, 2) := by decide +kernel
theorem dX0_exchange_12 : decode cX0_exchange 12 = .ok (.iload 5, 2) := by decide +kernel
theorem dX0_exchange_14 : decode cX0_exchange 14 = .ok (.iload 4, 2) := by decide +kernel
theorem dX0_exchange_16 : decode cX0_exchange 16 = .ok (.if_icmp .ge 35, 3) := by decide +kernel
theorem dX0_exchange_19 : decode cX0_exchange 19 = .ok (.aload_n 3, 1) := by decide +kernel
theorem dX0_exchange_20 : decode cX0_exchange 20 = .ok (.iload 5, 2) := by decide +kernel
theorem dX0_exchange_22 : decode cX0_exchange 22 = .ok (.aaload, 1) := by decide +kernel
theorem dX0_exchange_23 : decode cX0_exchange 23 = .ok (.astore 6, 2) := by decide +kernel
theorem dX0_exchange_25 : decode cX0_exchange 25 = .ok (.aload 6, 2) := by decide +kernel
theorem dX0_exchange_27 : decode cX0_exchange 27 = .ok (.iload_n 1, 1) := by decide +kernel
theorem dX0_exchange_28 : decode cX0_exchange 28 = .ok (.iaload, 1) := by decide +kernel
theorem dX0_exchange_29 : decode cX0_exchange 29 = .ok (.istore 7, 2) := by decide +kernel
theorem dX0_exchange_31 : decode cX0_exchange 31 = .ok (.aload 6, 2) := by decide +kernel
theorem dX0_exchange_33 : decode cX0_exchange 33 = .ok (.iload_n 1, 1) := by decide +kernel
theorem dX0_exchange_34 : decode cX0_exchange 34 = .ok (.aload 6, 2) := by decide +kernel
theorem dX0_exchange_36 : decode cX0_exchange 36 = .ok (.iload_n 2, 1) := by decide +kernel
theorem dX0_exchange_37 : decode cX0_exchange 37 = .ok (.iaload, 1) := by decide +kernel
theorem dX0_exchange_38 : decode cX0_exchange 38 = .ok (.iastore, 1) := by decide +kernel
theorem dX0_exchange_39 : decode cX0_exchange 39 = .ok (.aload 6, 2) := by decide +kernel
theorem dX0_exchange_41 : decode cX0_exchange 41 = .ok (.iload_n 2, 1) := by decide +kernel
theorem dX0_exchange_42 : decode cX0_exchange 42 = .ok (.iload 7, 2) := by decide +kernel
theorem dX0_exchange_44 : decode cX0_exchange 44 = .ok (.iastore, 1) := by decide +kernel
theorem dX0_exchange_45 : decode cX0_exchange 45 = .ok (.iinc 5 1, 3) := by decide +kernel
theorem dX0_exchange_48 : decode cX0_exchange 48 = .ok (.goto (-36), 3) := by decide +kernel
theorem dX0_exchange_51 : decode cX0_exchange 51 = .ok (.return_, 1) := by decide +kernel
set_option maxRecDepth 20000 in
theorem ggX0_arrange_X0_copyFrom : GoodIn wsX0_arrange wsX0_copyFrom := goodIn_r _ [7, 8, 9, 10, 11, 12, 2, 1, 17, 18, 19] (by decide +kernel) (by decide +kernel)
set_option maxRecDepth 20000 in
theorem gX0_arrange_X0_copyFrom : GoodIn wsX0_arrange (wsV RX0 41 RX0 yX0_copyFrom wsX0_copyFrom) := goodIn_app (goodIn_of _ (by decide +kernel)) ggX0_arrange_X0_copyFrom
set_option maxRecDepth 20000 in
theorem ggX0_arrange_X0_placeBy : GoodIn wsX0_arrange wsX0_placeBy := goodIn_r _ [16, 2, 1, 17, 18, 19] (by decide +kernel) (by decide +kernel)
set_option maxRecDepth 20000 in
theorem gX0_arrange_X0_placeBy : GoodIn wsX0_arrange (wsV RX0 45 RX0 yX0_placeBy wsX0_placeBy) := goodIn_app (goodIn_of _ (by decide +kernel)) ggX0_arrange_X0_placeBy
theorem dX0_arrange_0 : decode cX0_arrange 0 = .ok (.aload_n 0, 1) := by decide +kernel
theorem dX0_arrange_1 : decode cX0_arrange 1 = .ok (.aload_n 1, 1) := by decide +kernel
theorem dX0_arrange_2 : decode cX0_arrange 2 = .ok (.invokevirtual 41, 3) := by decide +kernel
theorem dX0_arrange_5 : decode cX0_arrange 5 = .ok (.iconst 0, 1) := by decide +kernel
theorem dX0_arrange_6 : decode cX0_arrange 6 = .ok (.istore_n 3, 1) := by decide +kernel
theorem dX0_arrange_7 : decode cX0_arrange 7 = .ok (.iconst 0, 1) := by decide +kernel
theorem dX0_arrange_8 : decode cX0_arrange 8 = .ok (.istore 4, 2) := by decide +kernel
theorem dX0_arrange_10 : decode cX0_arrange 10 = .ok (.iload 4, 2) := by decide +kernel
theorem dX0_arrange_12 : decode cX0_arrange 12 = .ok (.aload_n 1, 1) := by decide +kernel
theorem dX0_arrange_13 : decode cX0_arrange 13 = .ok (.getfield 29, 3) := by decide +kernel
theorem dX0_arrange_16 : decode cX0_arrange 16 = .ok (.if_icmp .ge 63, 3) := by decide +kernel
theorem dX0_arrange_19 : decode cX0_arrange 19 = .ok (.aload_n 1, 1) := by decide +kernel
theorem dX0_arrange_20 : decode cX0_arrange 20 = .ok (.iload_n 2, 1) := by decide +kernel
theorem dX0_arrange_21 : decode cX0_arrange 21 = .ok (.iload 4, 2) := by decide +kernel
theorem dX0_arrange_23 : decode cX0_arrange 23 = .ok (.invokevirtual 45, 3) := by decide +kernel
theorem dX0_arrange_26 : decode cX0_arrange 26 = .ok (.istore 5, 2) := by decide +kernel
theorem dX0_arrange_28 : decode cX0_arrange 28 = .ok (.iconst 0, 1) := by decide +kernel
theorem dX0_arrange_29 : decode cX0_arrange 29 = .ok (.istore 6, 2) := by decide +kernel
theorem dX0_arrange_31 : decode cX0_arrange 31 = .ok (.iload 6, 2) := by decide +kernel
theorem dX0_arrange_33 : decode cX0_arrange 33 = .ok (.iconst 4, 1) := by decide +kernel
theorem dX0_arrange_34 : decode cX0_arrange 34 = .ok (.if_icmp .ge 29, 3) := by decide +kernel
theorem dX0_arrange_37 : decode cX0_arrange 37 = .ok (.aload_n 0, 1) := by decide +kernel
theorem dX0_arrange_38 : decode cX0_arrange 38 = .ok (.getfield 26, 3) := by decide +kernel
theorem dX0_arrange_41 : decode cX0_arrange 41 = .ok (.iload 6, 2) := by decide +kernel
theorem dX0_arrange_43 : decode cX0_arrange 43 = .ok (.aaload, 1) := by decide +kernel
theorem dX0_arrange_44 : decode cX0_arrange 44 = .ok (.iload 5, 2) := by decide +kernel
theorem dX0_arrange_46 : decode cX0_arrange 46 = .ok (.aload_n 1, 1) := by decide +kernel
theorem dX0_arrange_47 : decode cX0_arrange 47 = .ok (.getfield 26, 3) := by decide +kernel
theorem dX0_arrange_50 : decode cX0_arrange 50 = .ok (.iload 6, 2) := by decide +kernel
theorem dX0_arrange_52 : decode cX0_arrange 52 = .ok (.aaload, 1) := by decide +kernel
theorem dX0_arrange_53 : decode cX0_arrange 53 = .ok (.iload 4, 2) := by decide +kernel
theorem dX0_arrange_55 : decode cX0_arrange 55 = .ok (.iaload, 1) := by decide +kernel
theorem dX0_arrange_56 : decode cX0_arrange 56 = .ok (.iastore, 1) := by decide +kernel
theorem dX0_arrange_57 : decode cX0_arrange 57 = .ok (.iinc 6 1, 3) := by decide +kernel
theorem dX0_arrange_60 : decode cX0_arrange 60 = .ok (.goto (-29), 3) := by decide +kernel
theorem dX0_arrange_63 : decode cX0_arrange 63 = .ok (.iload 5, 2) := by decide +kernel
theorem dX0_arrange_65 : decode cX0_arrange 65 = .ok (.iload 4, 2) := by decide +kernel
theorem dX0_arrange_67 : decode cX0_arrange 67 = .ok (.if_icmp .eq 6, 3) := by decide +kernel
theorem dX0_arrange_70 : decode cX0_arrange 70 = .ok (.iinc 3 1, 3) := by decide +kernel
theorem dX0_arrange_73 : decode cX0_arrange 73 = .ok (.iinc 4 1, 3) := by decide +kernel
theorem dX0_arrange_76 : decode cX0_arrange 76 = .ok (.goto (-66), 3) := by decide +kernel
theorem dX0_arrange_79 : decode cX0_arrange 79 = .ok (.iload_n 3, 1) := by decide +kernel
theorem dX0_arrange_80 : decode cX0_arrange 80 = .ok (.ireturn, 1) := by decide +kernel
theorem dX0_placeBy_0 : decode cX0_placeBy 0 = .ok (.aload_n 0, 1) := by decide +kernel
theorem dX0_placeBy_1 : decode cX0_placeBy 1 = .ok (.getfield 26, 3) := by decide +kernel
theorem dX0_placeBy_4 : decode cX0_placeBy 4 = .ok (.iload_n 1, 1) := by decide +kernel
theorem dX0_placeBy_5 : decode cX0_placeBy 5 = .ok (.aaload, 1) := by decide +kernel
theorem dX0_placeBy_6 : decode cX0_placeBy 6 = .ok (.astore_n 3, 1) := by decide +kernel
theorem dX0_placeBy_7 : decode cX0_placeBy 7 = .ok (.iconst 0, 1) := by decide +kernel
theorem dX0_placeBy_8 : decode cX0_placeBy 8 = .ok (.istore 4, 2) := by decide +kernel
theorem dX0_placeBy_10 : decode cX0_placeBy 10 = .ok (.iconst 0, 1) := by decide +kernel
theorem dX0_placeBy_11 : decode cX0_placeBy 11 = .ok (.istore 5, 2) := by decide +kernel
theorem dX0_placeBy_13 : decode cX0_placeBy 13 = .ok (.iload 5, 2) := by decide +kernel
theorem dX0_placeBy_15 : decode cX0_placeBy 15 = .ok (.aload_n 0, 1) := by decide +kernel
theorem dX0_placeBy_16 : decode cX0_placeBy 16 = .ok (.getfield 29, 3) := by decide +kernel
theorem dX0_placeBy_19 : decode cX0_placeBy 19 = .ok (.if_icmp .ge 38, 3) := by decide +kernel
theorem dX0_placeBy_22 : decode cX0_placeBy 22 = .ok (.aload_n 3, 1) := by decide +kernel
theorem dX0_placeBy_23 : decode cX0_placeBy 23 = .ok (.iload 5, 2) := by decide +kernel
theorem dX0_placeBy_25 : decode cX0_placeBy 25 = .ok (.iaload, 1) := by decide +kernel
theorem dX0_placeBy_26 : decode cX0_placeBy 26 = .ok (.aload_n 3, 1) := by decide +kernel
theorem dX0_placeBy_27 : decode cX0_placeBy 27 = .ok (.iload_n 2, 1) := by decide +kernel
theorem dX0_placeBy_28 : decode cX0_placeBy 28 = .ok (.iaload, 1) := by decide +kernel
theorem dX0_placeBy_29 : decode cX0_placeBy 29 = .ok (.if_icmp .lt 19, 3) := by decide +kernel
theorem dX0_placeBy_32 : decode cX0_placeBy 32 = .ok (.aload_n 3, 1) := by decide +kernel
theorem dX0_placeBy_33 : decode cX0_placeBy 33 = .ok (.iload 5, 2) := by decide +kernel
theorem dX0_placeBy_35 : decode cX0_placeBy 35 = .ok (.iaload, 1) := by decide +kernel
theorem dX0_placeBy_36 : decode cX0_placeBy 36 = .ok (.aload_n 3, 1) := by decide +kernel
theorem dX0_placeBy_37 : decode cX0_placeBy 37 = .ok (.iload_n 2, 1) := by decide +kernel
theorem dX0_placeBy_38 : decode cX0_placeBy 38 = .ok (.iaload, 1) := by decide +kernel
theorem dX0_placeBy_39 : decode cX0_placeBy 39 = .ok (.if_icmp .ne 12, 3) := by decide +kernel
theorem dX0_placeBy_42 : decode cX0_placeBy 42 = .ok (.iload 5, 2) := by decide +kernel
theorem dX0_placeBy_44 : decode cX0_placeBy 44 = .ok (.iload_n 2, 1) := by decide +kernel
theorem dX0_placeBy_45 : decode cX0_placeBy 45 = .ok (.if_icmp .ge 6, 3) := by decide +kernel
theorem dX0_placeBy_48 : decode cX0_placeBy 48 = .ok (.iinc 4 1, 3) := by decide +kernel
theorem dX0_placeBy_51 : decode cX0_placeBy 51 = .ok (.iinc 5 1, 3) := by decide +kernel
theorem dX0_placeBy_54 : decode cX0_placeBy 54 = .ok (.goto (-41), 3) := by decide +kernel
theorem dX0_placeBy_57 : decode cX0_placeBy 57 = .ok (.iload 4, 2) := by decide +kernel
theorem dX0_placeBy_59 : decode cX0_placeBy 59 = .ok (.ireturn, 1) := by decide +kernel
set_option maxRecDepth 20000 in
theorem ggX0_mostRacksNeeded_X4_racksFor : GoodIn wsX0_mostRacksNeeded wsX4_racksFor := goodIn_r _ [9] (by decide +kernel) (by decide +kernel)
set_option maxRecDepth 20000 in
theorem gX0_mostRacksNeeded_X4_racksFor_n49 : GoodIn wsX0_mostRacksNeeded (wsX4_racksFor) := ggX0_mostRacksNeeded_X4_racksFor
theorem dX0_mostRacksNeeded_0 : decode cX0_mostRacksNeeded 0 = .ok (.iconst 0, 1) := by decide +kernel
theorem dX0_mostRacksNeeded_1 : decode cX0_mostRacksNeeded 1 = .ok (.istore_n 2, 1) := by decide +kernel
theorem dX0_mostRacksNeeded_2 : decode cX0_mostRacksNeeded 2 = .ok (.iconst 0, 1) := by decide +kernel
theorem dX0_mostRacksNeeded_3 : decode cX0_mostRacksNeeded 3 = .ok (.istore_n 3, 1) := by decide +kernel
theorem dX0_mostRacksNeeded_4 : decode cX0_mostRacksNeeded 4 = .ok (.iload_n 3, 1) := by decide +kernel
theorem dX0_mostRacksNeeded_5 : decode cX0_mostRacksNeeded 5 = .ok (.aload_n 0, 1) := by decide +kernel
theorem dX0_mostRacksNeeded_6 : decode cX0_mostRacksNeeded 6 = .ok (.getfield 29, 3) := by decide +kernel
theorem dX0_mostRacksNeeded_9 : decode cX0_mostRacksNeeded 9 = .ok (.if_icmp .ge 26, 3) := by decide +kernel
theorem dX0_mostRacksNeeded_12 : decode cX0_mostRacksNeeded 12 = .ok (.iload_n 2, 1) := by decide +kernel
theorem dX0_mostRacksNeeded_13 : decode cX0_mostRacksNeeded 13 = .ok (.aload_n 0, 1) := by decide +kernel
theorem dX0_mostRacksNeeded_14 : decode cX0_mostRacksNeeded 14 = .ok (.getfield 26, 3) := by decide +kernel
theorem dX0_mostRacksNeeded_17 : decode cX0_mostRacksNeeded 17 = .ok (.iconst 2, 1) := by decide +kernel
theorem dX0_mostRacksNeeded_18 : decode cX0_mostRacksNeeded 18 = .ok (.aaload, 1) := by decide +kernel
theorem dX0_mostRacksNeeded_19 : decode cX0_mostRacksNeeded 19 = .ok (.iload_n 3, 1) := by decide +kernel
theorem dX0_mostRacksNeeded_20 : decode cX0_mostRacksNeeded 20 = .ok (.iaload, 1) := by decide +kernel
theorem dX0_mostRacksNeeded_21 : decode cX0_mostRacksNeeded 21 = .ok (.iload_n 1, 1) := by decide +kernel
theorem dX0_mostRacksNeeded_22 : decode cX0_mostRacksNeeded 22 = .ok (.invokestatic 49, 3) := by decide +kernel
theorem dX0_mostRacksNeeded_25 : decode cX0_mostRacksNeeded 25 = .ok (.invokestatic 52, 3) := by decide +kernel
theorem dX0_mostRacksNeeded_28 : decode cX0_mostRacksNeeded 28 = .ok (.istore_n 2, 1) := by decide +kernel
theorem dX0_mostRacksNeeded_29 : decode cX0_mostRacksNeeded 29 = .ok (.iinc 3 1, 3) := by decide +kernel
theorem dX0_mostRacksNeeded_32 : decode cX0_mostRacksNeeded 32 = .ok (.goto (-28), 3) := by decide +kernel
theorem dX0_mostRacksNeeded_35 : decode cX0_mostRacksNeeded 35 = .ok (.iload_n 2, 1) := by decide +kernel
theorem dX0_mostRacksNeeded_36 : decode cX0_mostRacksNeeded 36 = .ok (.ireturn, 1) := by decide +kernel
theorem dX0_hundredsOfAll_0 : decode cX0_hundredsOfAll 0 = .ok (.iconst 0, 1) := by decide +kernel
theorem dX0_hundredsOfAll_1 : decode cX0_hundredsOfAll 1 = .ok (.istore_n 1, 1) := by decide +kernel
theorem dX0_hundredsOfAll_2 : decode cX0_hundredsOfAll 2 = .ok (.iconst 0, 1) := by decide +kernel
theorem dX0_hundredsOfAll_3 : decode cX0_hundredsOfAll 3 = .ok (.istore_n 2, 1) := by decide +kernel
theorem dX0_hundredsOfAll_4 : decode cX0_hundredsOfAll 4 = .ok (.iload_n 2, 1) := by decide +kernel
theorem dX0_hundredsOfAll_5 : decode cX0_hundredsOfAll 5 = .ok (.aload_n 0, 1) := by decide +kernel
theorem dX0_hundredsOfAll_6 : decode cX0_hundredsOfAll 6 = .ok (.getfield 29, 3) := by decide +kernel
theorem dX0_hundredsOfAll_9 : decode cX0_hundredsOfAll 9 = .ok (.if_icmp .ge 20, 3) := by decide +kernel
theorem dX0_hundredsOfAll_12 : decode cX0_hundredsOfAll 12 = .ok (.iload_n 1, 1) := by decide +kernel
theorem dX0_hundredsOfAll_13 : decode cX0_hundredsOfAll 13 = .ok (.aload_n 0, 1) := by decide +kernel
theorem dX0_hundredsOfAll_14 : decode cX0_hundredsOfAll 14 = .ok (.getfield 26, 3) := by decide +kernel
theorem dX0_hundredsOfAll_17 : decode cX0_hundredsOfAll 17 = .ok (.iconst 2, 1) := by decide +kernel
theorem dX0_hundredsOfAll_18 : decode cX0_hundredsOfAll 18 = .ok (.aaload, 1) := by decide +kernel
theorem dX0_hundredsOfAll_19 : decode cX0_hundredsOfAll 19 = .ok (.iload_n 2, 1) := by decide +kernel
theorem dX0_hundredsOfAll_20 : decode cX0_hundredsOfAll 20 = .ok (.iaload, 1) := by decide +kernel
theorem dX0_hundredsOfAll_21 : decode cX0_hundredsOfAll 21 = .ok (.iadd, 1) := by decide +kernel
theorem dX0_hundredsOfAll_22 : decode cX0_hundredsOfAll 22 = .ok (.istore_n 1, 1) := by decide +kernel
theorem dX0_hundredsOfAll_23 : decode cX0_hundredsOfAll 23 = .ok (.iinc 2 1, 3) := by decide +kernel
theorem dX0_hundredsOfAll_26 : decode cX0_hundredsOfAll 26 = .ok (.goto (-22), 3) := by decide +kernel
theorem dX0_hundredsOfAll_29 : decode cX0_hundredsOfAll 29 = .ok (.iload_n 1, 1) := by decide +kernel
theorem dX0_hundredsOfAll_30 : decode cX0_hundredsOfAll 30 = .ok (.ireturn, 1) := by decide +kernel
set_option maxRecDepth 20000 in
theorem ggX1_init_X0_init : GoodIn wsX1_init wsX0_init := goodIn_r _ [10, 11, 2, 3, 12, 13, 14, 15, 16, 17, 18, 19, 23, 24, 25] (by decide +kernel) (by decide +kernel)
set_option maxRecDepth 20000 in
theorem gX1_init_X0_init : GoodIn wsX1_init (wsX0_init) := ggX1_init_X0_init
theorem dX1_init_0 : decode cX1_init 0 = .ok (.aload_n 0, 1) := by decide +kernel
theorem dX1_init_1 : decode cX1_init 1 = .ok (.invokespecial 3, 3) := by decide +kernel
theorem dX1_init_4 : decode cX1_init 4 = .ok (.aload_n 0, 1) := by decide +kernel
theorem dX1_init_5 : decode cX1_init 5 = .ok (.bipush 6, 2) := by decide +kernel
theorem dX1_init_7 : decode cX1_init 7 = .ok (.anewarray 9, 3) := by decide +kernel
theorem dX1_init_10 : decode cX1_init 10 = .ok (.putfield 11, 3) := by decide +kernel
theorem dX1_init_13 : decode cX1_init 13 = .ok (.iconst 0, 1) := by decide +kernel
theorem dX1_init_14 : decode cX1_init 14 = .ok (.istore_n 1, 1) := by decide +kernel
theorem dX1_init_15 : decode cX1_init 15 = .ok (.iload_n 1, 1) := by decide +kernel
theorem dX1_init_16 : decode cX1_init 16 = .ok (.bipush 6, 2) := by decide +kernel
theorem dX1_init_18 : decode cX1_init 18 = .ok (.if_icmp .ge 22, 3) := by decide +kernel
theorem dX1_init_21 : decode cX1_init 21 = .ok (.aload_n 0, 1) := by decide +kernel
theorem dX1_init_22 : decode cX1_init 22 = .ok (.getfield 11, 3) := by decide +kernel
theorem dX1_init_25 : decode cX1_init 25 = .ok (.iload_n 1, 1) := by decide +kernel
theorem dX1_init_26 : decode cX1_init 26 = .ok (.new 9, 3) := by decide +kernel
theorem dX1_init_29 : decode cX1_init 29 = .ok (.dup, 1) := by decide +kernel
theorem dX1_init_30 : decode cX1_init 30 = .ok (.invokespecial 17, 3) := by decide +kernel
theorem dX1_init_33 : decode cX1_init 33 = .ok (.aastore, 1) := by decide +kernel
theorem dX1_init_34 : decode cX1_init 34 = .ok (.iinc 1 1, 3) := by decide +kernel
theorem dX1_init_37 : decode cX1_init 37 = .ok (.goto (-22), 3) := by decide +kernel
theorem dX1_init_40 : decode cX1_init 40 = .ok (.return_, 1) := by decide +kernel
set_option maxRecDepth 20000 in
theorem ggX1_remember_X0_copyFrom : GoodIn wsX1_remember wsX0_copyFrom := goodIn_r _ [12, 13, 14, 15, 16, 17, 18, 19, 23, 24, 25] (by decide +kernel) (by decide +kernel)
set_option maxRecDepth 20000 in
theorem gX1_remember_X0_copyFrom : GoodIn wsX1_remember (wsV RX1 22 RX0 yX0_copyFrom wsX0_copyFrom) := goodIn_app (goodIn_of _ (by decide +kernel)) ggX1_remember_X0_copyFrom
theorem dX1_remember_0 : decode cX1_remember 0 = .ok (.aload_n 0, 1) := by decide +kernel
theorem dX1_remember_1 : decode cX1_remember 1 = .ok (.getfield 11, 3) := by decide +kernel
theorem dX1_remember_4 : decode cX1_remember 4 = .ok (.aload_n 0, 1) := by decide +kernel
theorem dX1_remember_5 : decode cX1_remember 5 = .ok (.getfield 18, 3) := by decide +kernel
theorem dX1_remember_8 : decode cX1_remember 8 = .ok (.aaload, 1) := by decide +kernel
theorem dX1_remember_9 : decode cX1_remember 9 = .ok (.aload_n 1, 1) := by decide +kernel
theorem dX1_remember_10 : decode cX1_remember 10 = .ok (.invokevirtual 22, 3) := by decide +kernel
theorem dX1_remember_13 : decode cX1_remember 13 = .ok (.aload_n 0, 1) := by decide +kernel
theorem dX1_remember_14 : decode cX1_remember 14 = .ok (.aload_n 0, 1) := by decide +kernel
theorem dX1_remember_15 : decode cX1_remember 15 = .ok (.getfield 18, 3) := by decide +kernel
theorem dX1_remember_18 : decode cX1_remember 18 = .ok (.iconst 5, 1) := by decide +kernel
theorem dX1_remember_19 : decode cX1_remember 19 = .ok (.if_icmp .ne 7, 3) := by decide +kernel
theorem dX1_remember_22 : decode cX1_remember 22 = .ok (.iconst 0, 1) := by decide +kernel
theorem dX1_remember_23 : decode cX1_remember 23 = .ok (.goto 9, 3) := by decide +kernel
theorem dX1_remember_26 : decode cX1_remember 26 = .ok (.aload_n 0, 1) := by decide +kernel
theorem dX1_remember_27 : decode cX1_remember 27 = .ok (.getfield 18, 3) := by decide +kernel
theorem dX1_remember_30 : decode cX1_remember 30 = .ok (.iconst 1, 1) := by decide +kernel
theorem dX1_remember_31 : decode cX1_remember 31 = .ok (.iadd, 1) := by decide +kernel
theorem dX1_remember_32 : decode cX1_remember 32 = .ok (.putfield 18, 3) := by decide +kernel
theorem dX1_remember_35 : decode cX1_remember 35 = .ok (.aload_n 0, 1) := by decide +kernel
theorem dX1_remember_36 : decode cX1_remember 36 = .ok (.aload_n 0, 1) := by decide +kernel
theorem dX1_remember_37 : decode cX1_remember 37 = .ok (.getfield 26, 3) := by decide +kernel
theorem dX1_remember_40 : decode cX1_remember 40 = .ok (.iconst 1, 1) := by decide +kernel
theorem dX1_remember_41 : decode cX1_remember 41 = .ok (.iadd, 1) := by decide +kernel
theorem dX1_remember_42 : decode cX1_remember 42 = .ok (.bipush 6, 2) := by decide +kernel
theorem dX1_remember_44 : decode cX1_remember 44 = .ok (.invokestatic 29, 3) := by decide +kernel
theorem dX1_remember_47 : decode cX1_remember 47 = .ok (.putfield 26, 3) := by decide +kernel
theorem dX1_remember_50 : decode cX1_remember 50 = .ok (.return_, 1) := by decide +kernel
set_option maxRecDepth 20000 in
theorem ggX1_takeBack_X0_copyFrom : GoodIn wsX1_takeBack wsX0_copyFrom := goodIn_r _ [8, 9, 10, 11, 12, 13, 14, 15, 19, 20, 21] (by decide +kernel) (by decide +kernel)
set_option maxRecDepth 20000 in
theorem gX1_takeBack_X0_copyFrom : GoodIn wsX1_takeBack (wsV RX1 22 RX0 yX0_copyFrom wsX0_copyFrom) := goodIn_app (goodIn_of _ (by decide +kernel)) ggX1_takeBack_X0_copyFrom
theorem dX1_takeBack_0 : decode cX1_takeBack 0 = .ok (.aload_n 0, 1) := by decide +kernel
theorem dX1_takeBack_1 : decode cX1_takeBack 1 = .ok (.aload_n 0, 1) := by decide +kernel
theorem dX1_takeBack_2 : decode cX1_takeBack 2 = .ok (.getfield 18, 3) := by decide +kernel
theorem dX1_takeBack_5 : decode cX1_takeBack 5 = .ok (.ifCond .ne 7, 3) := by decide +kernel
theorem dX1_takeBack_8 : decode cX1_takeBack 8 = .ok (.iconst 5, 1) := by decide +kernel
theorem dX1_takeBack_9 : decode cX1_takeBack 9 = .ok (.goto 9, 3) := by decide +kernel
theorem dX1_takeBack_12 : decode cX1_takeBack 12 = .ok (.aload_n 0, 1) := by decide +kernel
theorem dX1_takeBack_13 : decode cX1_takeBack 13 = .ok (.getfield 18, 3) := by decide +kernel
theorem dX1_takeBack_16 : decode cX1_takeBack 16 = .ok (.iconst 1, 1) := by decide +kernel
theorem dX1_takeBack_17 : decode cX1_takeBack 17 = .ok (.isub, 1) := by decide +kernel
theorem dX1_takeBack_18 : decode cX1_takeBack 18 = .ok (.putfield 18, 3) := by decide +kernel
theorem dX1_takeBack_21 : decode cX1_takeBack 21 = .ok (.aload_n 0, 1) := by decide +kernel
theorem dX1_takeBack_22 : decode cX1_takeBack 22 = .ok (.dup, 1) := by decide +kernel
theorem dX1_takeBack_23 : decode cX1_takeBack 23 = .ok (.getfield 26, 3) := by decide +kernel
theorem dX1_takeBack_26 : decode cX1_takeBack 26 = .ok (.iconst 1, 1) := by decide +kernel
theorem dX1_takeBack_27 : decode cX1_takeBack 27 = .ok (.isub, 1) := by decide +kernel
theorem dX1_takeBack_28 : decode cX1_takeBack 28 = .ok (.putfield 26, 3) := by decide +kernel
theorem dX1_takeBack_31 : decode cX1_takeBack 31 = .ok (.aload_n 1, 1) := by decide +kernel
theorem dX1_takeBack_32 : decode cX1_takeBack 32 = .ok (.aload_n 0, 1) := by decide +kernel
theorem dX1_takeBack_33 : decode cX1_takeBack 33 = .ok (.getfield 11, 3) := by decide +kernel
theorem dX1_takeBack_36 : decode cX1_takeBack 36 = .ok (.aload_n 0, 1) := by decide +kernel
theorem dX1_takeBack_37 : decode cX1_takeBack 37 = .ok (.getfield 18, 3) := by decide +kernel
theorem dX1_takeBack_40 : decode cX1_takeBack 40 = .ok (.aaload, 1) := by decide +kernel
theorem dX1_takeBack_41 : decode cX1_takeBack 41 = .ok (.invokevirtual 22, 3) := by decide +kernel
theorem dX1_takeBack_44 : decode cX1_takeBack 44 = .ok (.return_, 1) := by decide +kernel
set_option maxRecDepth 20000 in
theorem ggX2_init_X0_init : GoodIn wsX2_init wsX0_init := goodIn_r _ [12, 13, 2, 3, 8, 14, 15, 16, 17, 18, 19, 20, 21, 22, 23] (by decide +kernel) (by decide +kernel)
set_option maxRecDepth 20000 in
theorem gX2_init_X0_init : GoodIn wsX2_init (wsX0_init) := ggX2_init_X0_init
theorem dX2_init_0 : decode cX2_init 0 = .ok (.aload_n 0, 1) := by decide +kernel
theorem dX2_init_1 : decode cX2_init 1 = .ok (.invokespecial 3, 3) := by decide +kernel
theorem dX2_init_4 : decode cX2_init 4 = .ok (.aload_n 0, 1) := by decide +kernel
theorem dX2_init_5 : decode cX2_init 5 = .ok (.new 9, 3) := by decide +kernel
theorem dX2_init_8 : decode cX2_init 8 = .ok (.dup, 1) := by decide +kernel
theorem dX2_init_9 : decode cX2_init 9 = .ok (.invokespecial 11, 3) := by decide +kernel
theorem dX2_init_12 : decode cX2_init 12 = .ok (.putfield 12, 3) := by decide +kernel
theorem dX2_init_15 : decode cX2_init 15 = .ok (.aload_n 0, 1) := by decide +kernel
theorem dX2_init_16 : decode cX2_init 16 = .ok (.bipush 60, 2) := by decide +kernel
theorem dX2_init_18 : decode cX2_init 18 = .ok (.newarray .int, 2) := by decide +kernel
theorem dX2_init_20 : decode cX2_init 20 = .ok (.putfield 18, 3) := by decide +kernel
theorem dX2_init_23 : decode cX2_init 23 = .ok (.return_, 1) := by decide +kernel
theorem dX2_append_0 : decode cX2_append 0 = .ok (.aload_n 0, 1) := by decide +kernel
theorem dX2_append_1 : decode cX2_append 1 = .ok (.getfield 22, 3) := by decide +kernel
theorem dX2_append_4 : decode cX2_append 4 = .ok (.bipush 60, 2) := by decide +kernel
theorem dX2_append_6 : decode cX2_append 6 = .ok (.if_icmp .ge 23, 3) := by decide +kernel
theorem dX2_append_9 : decode cX2_append 9 = .ok (.aload_n 0, 1) := by decide +kernel
theorem dX2_append_10 : decode cX2_append 10 = .ok (.getfield 18, 3) := by decide +kernel
theorem dX2_append_13 : decode cX2_append 13 = .ok (.aload_n 0, 1) := by decide +kernel
theorem dX2_append_14 : decode cX2_append 14 = .ok (.getfield 22, 3) := by decide +kernel
theorem dX2_append_17 : decode cX2_append 17 = .ok (.iload_n 1, 1) := by decide +kernel
theorem dX2_append_18 : decode cX2_append 18 = .ok (.iastore, 1) := by decide +kernel
theorem dX2_append_19 : decode cX2_append 19 = .ok (.aload_n 0, 1) := by decide +kernel
theorem dX2_append_20 : decode cX2_append 20 = .ok (.dup, 1) := by decide +kernel
theorem dX2_append_21 : decode cX2_append 21 = .ok (.getfield 22, 3) := by decide +kernel
theorem dX2_append_24 : decode cX2_append 24 = .ok (.iconst 1, 1) := by decide +kernel
theorem dX2_append_25 : decode cX2_append 25 = .ok (.iadd, 1) := by decide +kernel
theorem dX2_append_26 : decode cX2_append 26 = .ok (.putfield 22, 3) := by decide +kernel
theorem dX2_append_29 : decode cX2_append 29 = .ok (.return_, 1) := by decide +kernel
set_option maxRecDepth 20000 in
theorem ggX2_parse_X2_takes : GoodIn wsX2_parse wsX2_takes := goodIn_r _ [10, 3, 11, 12, 13, 14, 15, 16, 17, 18, 19, 20, 9, 21, 22, 23, 24, 25, 26, 27, 28, 29, 30, 31, 32, 33, 1, 34, 35, 36, 37, 38, 39, 40, 41, 42, 43, 44, 45, 46, 47, 48, 49, 50, 51, 52, 53, 54, 55] (by decide +kernel) (by decide +kernel)
set_option maxRecDepth 20000 in
theorem gX2_parse_X2_takes : GoodIn wsX2_parse (wsV RX2 32 RX2 yX2_takes wsX2_takes) := goodIn_app (goodIn_of _ (by decide +kernel)) ggX2_parse_X2_takes
set_option maxRecDepth 20000 in
theorem ggX2_parse_X2_endJob : GoodIn wsX2_parse wsX2_endJob := goodIn_r _ [33, 1, 11, 12, 13, 14, 34, 35, 36, 37, 38, 39, 40, 45, 46, 47, 48, 49, 50, 51, 52, 53, 54, 55] (by decide +kernel) (by decide +kernel)
set_option maxRecDepth 20000 in
theorem gX2_parse_X2_endJob : GoodIn wsX2_parse (wsV RX2 36 RX2 yX2_endJob wsX2_endJob) := goodIn_app (goodIn_of _ (by decide +kernel)) ggX2_parse_X2_endJob
theorem dX2_parse_0 : decode cX2_parse 0 = .ok (.aload_n 0, 1) := by decide +kernel
theorem dX2_parse_1 : decode cX2_parse 1 = .ok (.getfield 12, 3) := by decide +kernel
theorem dX2_parse_4 : decode cX2_parse 4 = .ok (.iconst 0, 1) := by decide +kernel
theorem dX2_parse_5 : decode cX2_parse 5 = .ok (.putfield 26, 3) := by decide +kernel
theorem dX2_parse_8 : decode cX2_parse 8 = .ok (.aload_n 0, 1) := by decide +kernel
theorem dX2_parse_9 : decode cX2_parse 9 = .ok (.iconst 0, 1) := by decide +kernel
theorem dX2_parse_10 : decode cX2_parse 10 = .ok (.putfield 29, 3) := by decide +kernel
theorem dX2_parse_13 : decode cX2_parse 13 = .ok (.iconst 0, 1) := by decide +kernel
theorem dX2_parse_14 : decode cX2_parse 14 = .ok (.istore_n 1, 1) := by decide +kernel
theorem dX2_parse_15 : decode cX2_parse 15 = .ok (.iload_n 1, 1) := by decide +kernel
theorem dX2_parse_16 : decode cX2_parse 16 = .ok (.aload_n 0, 1) := by decide +kernel
theorem dX2_parse_17 : decode cX2_parse 17 = .ok (.getfield 22, 3) := by decide +kernel
theorem dX2_parse_20 : decode cX2_parse 20 = .ok (.if_icmp .ge 24, 3) := by decide +kernel
theorem dX2_parse_23 : decode cX2_parse 23 = .ok (.aload_n 0, 1) := by decide +kernel
theorem dX2_parse_24 : decode cX2_parse 24 = .ok (.aload_n 0, 1) := by decide +kernel
theorem dX2_parse_25 : decode cX2_parse 25 = .ok (.getfield 18, 3) := by decide +kernel
theorem dX2_parse_28 : decode cX2_parse 28 = .ok (.iload_n 1, 1) := by decide +kernel
theorem dX2_parse_29 : decode cX2_parse 29 = .ok (.iaload, 1) := by decide +kernel
theorem dX2_parse_30 : decode cX2_parse 30 = .ok (.invokevirtual 32, 3) := by decide +kernel
theorem dX2_parse_33 : decode cX2_parse 33 = .ok (.ifCond .ne 5, 3) := by decide +kernel
theorem dX2_parse_36 : decode cX2_parse 36 = .ok (.iload_n 1, 1) := by decide +kernel
theorem dX2_parse_37 : decode cX2_parse 37 = .ok (.ireturn, 1) := by decide +kernel
theorem dX2_parse_38 : decode cX2_parse 38 = .ok (.iinc 1 1, 3) := by decide +kernel
theorem dX2_parse_41 : decode cX2_parse 41 = .ok (.goto (-26), 3) := by decide +kernel
theorem dX2_parse_44 : decode cX2_parse 44 = .ok (.aload_n 0, 1) := by decide +kernel
theorem dX2_parse_45 : decode cX2_parse 45 = .ok (.getfield 29, 3) := by decide +kernel
theorem dX2_parse_48 : decode cX2_parse 48 = .ok (.bipush 6, 2) := by decide +kernel
theorem dX2_parse_50 : decode cX2_parse 50 = .ok (.if_icmp .eq 17, 3) := by decide +kernel
theorem dX2_parse_53 : decode cX2_parse 53 = .ok (.aload_n 0, 1) := by decide +kernel
theorem dX2_parse_54 : decode cX2_parse 54 = .ok (.getfield 29, 3) := by decide +kernel
theorem dX2_parse_57 : decode cX2_parse 57 = .ok (.bipush 8, 2) := by decide +kernel
theorem dX2_parse_59 : decode cX2_parse 59 = .ok (.if_icmp .eq 8, 3) := by decide +kernel
theorem dX2_parse_62 : decode cX2_parse 62 = .ok (.aload_n 0, 1) := by decide +kernel
theorem dX2_parse_63 : decode cX2_parse 63 = .ok (.getfield 22, 3) := by decide +kernel
theorem dX2_parse_66 : decode cX2_parse 66 = .ok (.ireturn, 1) := by decide +kernel
theorem dX2_parse_67 : decode cX2_parse 67 = .ok (.aload_n 0, 1) := by decide +kernel
theorem dX2_parse_68 : decode cX2_parse 68 = .ok (.invokevirtual 36, 3) := by decide +kernel
theorem dX2_parse_71 : decode cX2_parse 71 = .ok (.bipush (-6), 2) := by decide +kernel
theorem dX2_parse_73 : decode cX2_parse 73 = .ok (.ireturn, 1) := by decide +kernel
set_option maxRecDepth 20000 in
theorem ggX2_takes_X4_within : GoodIn wsX2_takes wsX4_within := goodIn_r _ [8] (by decide +kernel) (by decide +kernel)
set_option maxRecDepth 20000 in
theorem gX2_takes_X4_within_n39 : GoodIn wsX2_takes (wsX4_within) := ggX2_takes_X4_within
set_option maxRecDepth 20000 in
theorem ggX2_takes_X2_takesLetter : GoodIn wsX2_takes wsX2_takesLetter := goodIn_r _ [13, 1, 38, 39, 40, 41, 42, 43, 44, 45] (by decide +kernel) (by decide +kernel)
set_option maxRecDepth 20000 in
theorem gX2_takes_X2_takesLetter : GoodIn wsX2_takes (wsV RX2 43 RX2 yX2_takesLetter wsX2_takesLetter) := goodIn_app (goodIn_of _ (by decide +kernel)) ggX2_takes_X2_takesLetter
set_option maxRecDepth 20000 in
theorem ggX2_takes_X2_takesBehindHundreds : GoodIn wsX2_takes wsX2_takesBehindHundreds := goodIn_r _ [17, 4, 1, 18, 19, 20, 12, 21, 22, 23, 24, 25, 26, 2, 3, 5, 27, 28, 29, 30, 31, 32, 33, 38, 39, 40, 41, 42, 43, 44, 45, 46, 47, 48] (by decide +kernel) (by decide +kernel)
set_option maxRecDepth 20000 in
theorem gX2_takes_X2_takesBehindHundreds : GoodIn wsX2_takes (wsV RX2 59 RX2 yX2_takesBehindHundreds wsX2_takesBehindHundreds) := goodIn_app (goodIn_of _ (by decide +kernel)) ggX2_takes_X2_takesBehindHundreds
set_option maxRecDepth 20000 in
theorem ggX2_takes_X2_takesBehindDue : GoodIn wsX2_takes wsX2_takesBehindDue := goodIn_r _ [37, 5, 18, 19, 20, 12, 21, 1, 22, 23, 24, 25, 26, 2, 3, 4, 27, 28, 29, 30, 31, 32, 33, 38, 39, 40, 41, 42, 43, 44, 45, 46, 47, 48] (by decide +kernel) (by decide +kernel)
set_option maxRecDepth 20000 in
theorem gX2_takes_X2_takesBehindDue : GoodIn wsX2_takes (wsV RX2 63 RX2 yX2_takesBehindDue wsX2_takesBehindDue) := goodIn_app (goodIn_of _ (by decide +kernel)) ggX2_takes_X2_takesBehindDue
theorem dX2_takes_0 : decode cX2_takes 0 = .ok (.iload_n 1, 1) := by decide +kernel
theorem dX2_takes_1 : decode cX2_takes 1 = .ok (.bipush 48, 2) := by decide +kernel
theorem dX2_takes_3 : decode cX2_takes 3 = .ok (.bipush 57, 2) := by decide +kernel
theorem dX2_takes_5 : decode cX2_takes 5 = .ok (.invokestatic 39, 3) := by decide +kernel
theorem dX2_takes_8 : decode cX2_takes 8 = .ok (.ifCond .eq 10, 3) := by decide +kernel
theorem dX2_takes_11 : decode cX2_takes 11 = .ok (.iload_n 1, 1) := by decide +kernel
theorem dX2_takes_12 : decode cX2_takes 12 = .ok (.bipush 48, 2) := by decide +kernel
theorem dX2_takes_14 : decode cX2_takes 14 = .ok (.isub, 1) := by decide +kernel
theorem dX2_takes_15 : decode cX2_takes 15 = .ok (.goto 5, 3) := by decide +kernel
theorem dX2_takes_18 : decode cX2_takes 18 = .ok (.bipush (-6), 2) := by decide +kernel
theorem dX2_takes_20 : decode cX2_takes 20 = .ok (.istore_n 2, 1) := by decide +kernel
theorem dX2_takes_21 : decode cX2_takes 21 = .ok (.aload_n 0, 1) := by decide +kernel
theorem dX2_takes_22 : decode cX2_takes 22 = .ok (.getfield 29, 3) := by decide +kernel
theorem dX2_takes_25 : decode cX2_takes 25 = .ok (.tableswitch 179 0 7 #[47, 55, 77, 85, 107, 115, 149, 156], 47) := by decide +kernel
theorem dX2_takes_72 : decode cX2_takes 72 = .ok (.aload_n 0, 1) := by decide +kernel
theorem dX2_takes_73 : decode cX2_takes 73 = .ok (.iload_n 1, 1) := by decide +kernel
theorem dX2_takes_74 : decode cX2_takes 74 = .ok (.bipush 112, 2) := by decide +kernel
theorem dX2_takes_76 : decode cX2_takes 76 = .ok (.invokevirtual 43, 3) := by decide +kernel
theorem dX2_takes_79 : decode cX2_takes 79 = .ok (.ireturn, 1) := by decide +kernel
theorem dX2_takes_80 : decode cX2_takes 80 = .ok (.aload_n 0, 1) := by decide +kernel
theorem dX2_takes_81 : decode cX2_takes 81 = .ok (.iload_n 2, 1) := by decide +kernel
theorem dX2_takes_82 : decode cX2_takes 82 = .ok (.putfield 47, 3) := by decide +kernel
theorem dX2_takes_85 : decode cX2_takes 85 = .ok (.aload_n 0, 1) := by decide +kernel
theorem dX2_takes_86 : decode cX2_takes 86 = .ok (.iconst 2, 1) := by decide +kernel
theorem dX2_takes_87 : decode cX2_takes 87 = .ok (.putfield 29, 3) := by decide +kernel
theorem dX2_takes_90 : decode cX2_takes 90 = .ok (.iload_n 2, 1) := by decide +kernel
theorem dX2_takes_91 : decode cX2_takes 91 = .ok (.bipush (-6), 2) := by decide +kernel
theorem dX2_takes_93 : decode cX2_takes 93 = .ok (.if_icmp .eq 7, 3) := by decide +kernel
theorem dX2_takes_96 : decode cX2_takes 96 = .ok (.iconst 1, 1) := by decide +kernel
theorem dX2_takes_97 : decode cX2_takes 97 = .ok (.goto 4, 3) := by decide +kernel
theorem dX2_takes_100 : decode cX2_takes 100 = .ok (.iconst 0, 1) := by decide +kernel
theorem dX2_takes_101 : decode cX2_takes 101 = .ok (.ireturn, 1) := by decide +kernel
theorem dX2_takes_102 : decode cX2_takes 102 = .ok (.aload_n 0, 1) := by decide +kernel
theorem dX2_takes_103 : decode cX2_takes 103 = .ok (.iload_n 1, 1) := by decide +kernel
theorem dX2_takes_104 : decode cX2_takes 104 = .ok (.bipush 115, 2) := by decide +kernel
theorem dX2_takes_106 : decode cX2_takes 106 = .ok (.invokevirtual 43, 3) := by decide +kernel
theorem dX2_takes_109 : decode cX2_takes 109 = .ok (.ireturn, 1) := by decide +kernel
theorem dX2_takes_110 : decode cX2_takes 110 = .ok (.aload_n 0, 1) := by decide +kernel
theorem dX2_takes_111 : decode cX2_takes 111 = .ok (.iload_n 2, 1) := by decide +kernel
theorem dX2_takes_112 : decode cX2_takes 112 = .ok (.putfield 50, 3) := by decide +kernel
theorem dX2_takes_115 : decode cX2_takes 115 = .ok (.aload_n 0, 1) := by decide +kernel
theorem dX2_takes_116 : decode cX2_takes 116 = .ok (.iconst 4, 1) := by decide +kernel
theorem dX2_takes_117 : decode cX2_takes 117 = .ok (.putfield 29, 3) := by decide +kernel
theorem dX2_takes_120 : decode cX2_takes 120 = .ok (.iload_n 2, 1) := by decide +kernel
theorem dX2_takes_121 : decode cX2_takes 121 = .ok (.bipush (-6), 2) := by decide +kernel
theorem dX2_takes_123 : decode cX2_takes 123 = .ok (.if_icmp .eq 7, 3) := by decide +kernel
theorem dX2_takes_126 : decode cX2_takes 126 = .ok (.iconst 1, 1) := by decide +kernel
theorem dX2_takes_127 : decode cX2_takes 127 = .ok (.goto 4, 3) := by decide +kernel
theorem dX2_takes_130 : decode cX2_takes 130 = .ok (.iconst 0, 1) := by decide +kernel
theorem dX2_takes_131 : decode cX2_takes 131 = .ok (.ireturn, 1) := by decide +kernel
theorem dX2_takes_132 : decode cX2_takes 132 = .ok (.aload_n 0, 1) := by decide +kernel
theorem dX2_takes_133 : decode cX2_takes 133 = .ok (.iload_n 1, 1) := by decide +kernel
theorem dX2_takes_134 : decode cX2_takes 134 = .ok (.bipush 110, 2) := by decide +kernel
theorem dX2_takes_136 : decode cX2_takes 136 = .ok (.invokevirtual 43, 3) := by decide +kernel
theorem dX2_takes_139 : decode cX2_takes 139 = .ok (.ireturn, 1) := by decide +kernel
theorem dX2_takes_140 : decode cX2_takes 140 = .ok (.aload_n 0, 1) := by decide +kernel
theorem dX2_takes_141 : decode cX2_takes 141 = .ok (.iload_n 2, 1) := by decide +kernel
theorem dX2_takes_142 : decode cX2_takes 142 = .ok (.putfield 53, 3) := by decide +kernel
theorem dX2_takes_145 : decode cX2_takes 145 = .ok (.aload_n 0, 1) := by decide +kernel
theorem dX2_takes_146 : decode cX2_takes 146 = .ok (.sipush 3000, 3) := by decide +kernel
theorem dX2_takes_149 : decode cX2_takes 149 = .ok (.putfield 56, 3) := by decide +kernel
theorem dX2_takes_152 : decode cX2_takes 152 = .ok (.aload_n 0, 1) := by decide +kernel
theorem dX2_takes_153 : decode cX2_takes 153 = .ok (.bipush 6, 2) := by decide +kernel
theorem dX2_takes_155 : decode cX2_takes 155 = .ok (.putfield 29, 3) := by decide +kernel
theorem dX2_takes_158 : decode cX2_takes 158 = .ok (.iload_n 2, 1) := by decide +kernel
theorem dX2_takes_159 : decode cX2_takes 159 = .ok (.bipush (-6), 2) := by decide +kernel
theorem dX2_takes_161 : decode cX2_takes 161 = .ok (.if_icmp .eq 11, 3) := by decide +kernel
theorem dX2_takes_164 : decode cX2_takes 164 = .ok (.iload_n 2, 1) := by decide +kernel
theorem dX2_takes_165 : decode cX2_takes 165 = .ok (.ifCond .eq 7, 3) := by decide +kernel
theorem dX2_takes_168 : decode cX2_takes 168 = .ok (.iconst 1, 1) := by decide +kernel
theorem dX2_takes_169 : decode cX2_takes 169 = .ok (.goto 4, 3) := by decide +kernel
theorem dX2_takes_172 : decode cX2_takes 172 = .ok (.iconst 0, 1) := by decide +kernel
theorem dX2_takes_173 : decode cX2_takes 173 = .ok (.ireturn, 1) := by decide +kernel
theorem dX2_takes_174 : decode cX2_takes 174 = .ok (.aload_n 0, 1) := by decide +kernel
theorem dX2_takes_175 : decode cX2_takes 175 = .ok (.iload_n 1, 1) := by decide +kernel
theorem dX2_takes_176 : decode cX2_takes 176 = .ok (.iload_n 2, 1) := by decide +kernel
theorem dX2_takes_177 : decode cX2_takes 177 = .ok (.invokevirtual 59, 3) := by decide +kernel
theorem dX2_takes_180 : decode cX2_takes 180 = .ok (.ireturn, 1) := by decide +kernel
theorem dX2_takes_181 : decode cX2_takes 181 = .ok (.aload_n 0, 1) := by decide +kernel
theorem dX2_takes_182 : decode cX2_takes 182 = .ok (.iload_n 2, 1) := by decide +kernel
theorem dX2_takes_183 : decode cX2_takes 183 = .ok (.putfield 56, 3) := by decide +kernel
theorem dX2_takes_186 : decode cX2_takes 186 = .ok (.aload_n 0, 1) := by decide +kernel
theorem dX2_takes_187 : decode cX2_takes 187 = .ok (.bipush 8, 2) := by decide +kernel
theorem dX2_takes_189 : decode cX2_takes 189 = .ok (.putfield 29, 3) := by decide +kernel
theorem dX2_takes_192 : decode cX2_takes 192 = .ok (.iload_n 2, 1) := by decide +kernel
theorem dX2_takes_193 : decode cX2_takes 193 = .ok (.bipush (-6), 2) := by decide +kernel
theorem dX2_takes_195 : decode cX2_takes 195 = .ok (.if_icmp .eq 7, 3) := by decide +kernel
theorem dX2_takes_198 : decode cX2_takes 198 = .ok (.iconst 1, 1) := by decide +kernel
theorem dX2_takes_199 : decode cX2_takes 199 = .ok (.goto 4, 3) := by decide +kernel
theorem dX2_takes_202 : decode cX2_takes 202 = .ok (.iconst 0, 1) := by decide +kernel
theorem dX2_takes_203 : decode cX2_takes 203 = .ok (.ireturn, 1) := by decide +kernel
theorem dX2_takes_204 : decode cX2_takes 204 = .ok (.aload_n 0, 1) := by decide +kernel
theorem dX2_takes_205 : decode cX2_takes 205 = .ok (.iload_n 1, 1) := by decide +kernel
theorem dX2_takes_206 : decode cX2_takes 206 = .ok (.iload_n 2, 1) := by decide +kernel
theorem dX2_takes_207 : decode cX2_takes 207 = .ok (.invokevirtual 63, 3) := by decide +kernel
theorem dX2_takes_210 : decode cX2_takes 210 = .ok (.ireturn, 1) := by decide +kernel
theorem dX2_takesLetter_0 : decode cX2_takesLetter 0 = .ok (.aload_n 0, 1) := by decide +kernel
theorem dX2_takesLetter_1 : decode cX2_takesLetter 1 = .ok (.dup, 1) := by decide +kernel
theorem dX2_takesLetter_2 : decode cX2_takesLetter 2 = .ok (.getfield 29, 3) := by decide +kernel
theorem dX2_takesLetter_5 : decode cX2_takesLetter 5 = .ok (.iconst 1, 1) := by decide +kernel
theorem dX2_takesLetter_6 : decode cX2_takesLetter 6 = .ok (.iadd, 1) := by decide +kernel
theorem dX2_takesLetter_7 : decode cX2_takesLetter 7 = .ok (.putfield 29, 3) := by decide +kernel
theorem dX2_takesLetter_10 : decode cX2_takesLetter 10 = .ok (.iload_n 1, 1) := by decide +kernel
theorem dX2_takesLetter_11 : decode cX2_takesLetter 11 = .ok (.iload_n 2, 1) := by decide +kernel
theorem dX2_takesLetter_12 : decode cX2_takesLetter 12 = .ok (.if_icmp .ne 7, 3) := by decide +kernel
theorem dX2_takesLetter_15 : decode cX2_takesLetter 15 = .ok (.iconst 1, 1) := by decide +kernel
theorem dX2_takesLetter_16 : decode cX2_takesLetter 16 = .ok (.goto 4, 3) := by decide +kernel
theorem dX2_takesLetter_19 : decode cX2_takesLetter 19 = .ok (.iconst 0, 1) := by decide +kernel
theorem dX2_takesLetter_20 : decode cX2_takesLetter 20 = .ok (.ireturn, 1) := by decide +kernel
set_option maxRecDepth 20000 in
theorem ggX2_takesBehindHundreds_X2_takesEndOfJob : GoodIn wsX2_takesBehindHundreds wsX2_takesEndOfJob := goodIn_r _ [7, 2, 8, 9, 10, 6, 11, 12, 13, 14, 1, 15, 16, 17, 18, 19, 20, 21, 22, 23, 24, 25, 26, 27, 28, 29, 30, 31, 32, 33] (by decide +kernel) (by decide +kernel)
set_option maxRecDepth 20000 in
theorem gX2_takesBehindHundreds_X2_takesEndOfJob : GoodIn wsX2_takesBehindHundreds (wsV RX2 66 RX2 yX2_takesEndOfJob wsX2_takesEndOfJob) := goodIn_app (goodIn_of _ (by decide +kernel)) ggX2_takesBehindHundreds_X2_takesEndOfJob
theorem dX2_takesBehindHundreds_0 : decode cX2_takesBehindHundreds 0 = .ok (.iload_n 2, 1) := by decide +kernel
theorem dX2_takesBehindHundreds_1 : decode cX2_takesBehindHundreds 1 = .ok (.bipush (-6), 2) := by decide +kernel
theorem dX2_takesBehindHundreds_3 : decode cX2_takesBehindHundreds 3 = .ok (.if_icmp .eq 31, 3) := by decide +kernel
theorem dX2_takesBehindHundreds_6 : decode cX2_takesBehindHundreds 6 = .ok (.aload_n 0, 1) := by decide +kernel
theorem dX2_takesBehindHundreds_7 : decode cX2_takesBehindHundreds 7 = .ok (.bipush 10, 2) := by decide +kernel
theorem dX2_takesBehindHundreds_9 : decode cX2_takesBehindHundreds 9 = .ok (.aload_n 0, 1) := by decide +kernel
theorem dX2_takesBehindHundreds_10 : decode cX2_takesBehindHundreds 10 = .ok (.getfield 53, 3) := by decide +kernel
theorem dX2_takesBehindHundreds_13 : decode cX2_takesBehindHundreds 13 = .ok (.imul, 1) := by decide +kernel
theorem dX2_takesBehindHundreds_14 : decode cX2_takesBehindHundreds 14 = .ok (.iload_n 2, 1) := by decide +kernel
theorem dX2_takesBehindHundreds_15 : decode cX2_takesBehindHundreds 15 = .ok (.iadd, 1) := by decide +kernel
theorem dX2_takesBehindHundreds_16 : decode cX2_takesBehindHundreds 16 = .ok (.putfield 53, 3) := by decide +kernel
theorem dX2_takesBehindHundreds_19 : decode cX2_takesBehindHundreds 19 = .ok (.aload_n 0, 1) := by decide +kernel
theorem dX2_takesBehindHundreds_20 : decode cX2_takesBehindHundreds 20 = .ok (.getfield 53, 3) := by decide +kernel
theorem dX2_takesBehindHundreds_23 : decode cX2_takesBehindHundreds 23 = .ok (.bipush 20, 2) := by decide +kernel
theorem dX2_takesBehindHundreds_25 : decode cX2_takesBehindHundreds 25 = .ok (.if_icmp .gt 7, 3) := by decide +kernel
theorem dX2_takesBehindHundreds_28 : decode cX2_takesBehindHundreds 28 = .ok (.iconst 1, 1) := by decide +kernel
theorem dX2_takesBehindHundreds_29 : decode cX2_takesBehindHundreds 29 = .ok (.goto 4, 3) := by decide +kernel
theorem dX2_takesBehindHundreds_32 : decode cX2_takesBehindHundreds 32 = .ok (.iconst 0, 1) := by decide +kernel
theorem dX2_takesBehindHundreds_33 : decode cX2_takesBehindHundreds 33 = .ok (.ireturn, 1) := by decide +kernel
theorem dX2_takesBehindHundreds_34 : decode cX2_takesBehindHundreds 34 = .ok (.iload_n 1, 1) := by decide +kernel
theorem dX2_takesBehindHundreds_35 : decode cX2_takesBehindHundreds 35 = .ok (.bipush 100, 2) := by decide +kernel
theorem dX2_takesBehindHundreds_37 : decode cX2_takesBehindHundreds 37 = .ok (.if_icmp .ne 11, 3) := by decide +kernel
theorem dX2_takesBehindHundreds_40 : decode cX2_takesBehindHundreds 40 = .ok (.aload_n 0, 1) := by decide +kernel
theorem dX2_takesBehindHundreds_41 : decode cX2_takesBehindHundreds 41 = .ok (.bipush 7, 2) := by decide +kernel
theorem dX2_takesBehindHundreds_43 : decode cX2_takesBehindHundreds 43 = .ok (.putfield 29, 3) := by decide +kernel
theorem dX2_takesBehindHundreds_46 : decode cX2_takesBehindHundreds 46 = .ok (.iconst 1, 1) := by decide +kernel
theorem dX2_takesBehindHundreds_47 : decode cX2_takesBehindHundreds 47 = .ok (.ireturn, 1) := by decide +kernel
theorem dX2_takesBehindHundreds_48 : decode cX2_takesBehindHundreds 48 = .ok (.aload_n 0, 1) := by decide +kernel
theorem dX2_takesBehindHundreds_49 : decode cX2_takesBehindHundreds 49 = .ok (.iload_n 1, 1) := by decide +kernel
theorem dX2_takesBehindHundreds_50 : decode cX2_takesBehindHundreds 50 = .ok (.invokevirtual 66, 3) := by decide +kernel
theorem dX2_takesBehindHundreds_53 : decode cX2_takesBehindHundreds 53 = .ok (.ireturn, 1) := by decide +kernel
set_option maxRecDepth 20000 in
theorem ggX2_takesBehindDue_X2_takesEndOfJob : GoodIn wsX2_takesBehindDue wsX2_takesEndOfJob := goodIn_r _ [6, 7, 8, 9, 10, 5, 11, 12, 13, 14, 15, 1, 16, 17, 18, 19, 20, 21, 22, 23, 24, 25, 26, 27, 28, 29, 30, 31, 32, 33] (by decide +kernel) (by decide +kernel)
set_option maxRecDepth 20000 in
theorem gX2_takesBehindDue_X2_takesEndOfJob : GoodIn wsX2_takesBehindDue (wsV RX2 66 RX2 yX2_takesEndOfJob wsX2_takesEndOfJob) := goodIn_app (goodIn_of _ (by decide +kernel)) ggX2_takesBehindDue_X2_takesEndOfJob
theorem dX2_takesBehindDue_0 : decode cX2_takesBehindDue 0 = .ok (.iload_n 2, 1) := by decide +kernel
theorem dX2_takesBehindDue_1 : decode cX2_takesBehindDue 1 = .ok (.bipush (-6), 2) := by decide +kernel
theorem dX2_takesBehindDue_3 : decode cX2_takesBehindDue 3 = .ok (.if_icmp .eq 49, 3) := by decide +kernel
theorem dX2_takesBehindDue_6 : decode cX2_takesBehindDue 6 = .ok (.aload_n 0, 1) := by decide +kernel
theorem dX2_takesBehindDue_7 : decode cX2_takesBehindDue 7 = .ok (.getfield 56, 3) := by decide +kernel
theorem dX2_takesBehindDue_10 : decode cX2_takesBehindDue 10 = .ok (.ifCond .ne 7, 3) := by decide +kernel
theorem dX2_takesBehindDue_13 : decode cX2_takesBehindDue 13 = .ok (.iconst 1, 1) := by decide +kernel
theorem dX2_takesBehindDue_14 : decode cX2_takesBehindDue 14 = .ok (.goto 4, 3) := by decide +kernel
theorem dX2_takesBehindDue_17 : decode cX2_takesBehindDue 17 = .ok (.iconst 0, 1) := by decide +kernel
theorem dX2_takesBehindDue_18 : decode cX2_takesBehindDue 18 = .ok (.istore_n 3, 1) := by decide +kernel
theorem dX2_takesBehindDue_19 : decode cX2_takesBehindDue 19 = .ok (.aload_n 0, 1) := by decide +kernel
theorem dX2_takesBehindDue_20 : decode cX2_takesBehindDue 20 = .ok (.bipush 10, 2) := by decide +kernel
theorem dX2_takesBehindDue_22 : decode cX2_takesBehindDue 22 = .ok (.aload_n 0, 1) := by decide +kernel
theorem dX2_takesBehindDue_23 : decode cX2_takesBehindDue 23 = .ok (.getfield 56, 3) := by decide +kernel
theorem dX2_takesBehindDue_26 : decode cX2_takesBehindDue 26 = .ok (.imul, 1) := by decide +kernel
theorem dX2_takesBehindDue_27 : decode cX2_takesBehindDue 27 = .ok (.iload_n 2, 1) := by decide +kernel
theorem dX2_takesBehindDue_28 : decode cX2_takesBehindDue 28 = .ok (.iadd, 1) := by decide +kernel
theorem dX2_takesBehindDue_29 : decode cX2_takesBehindDue 29 = .ok (.putfield 56, 3) := by decide +kernel
theorem dX2_takesBehindDue_32 : decode cX2_takesBehindDue 32 = .ok (.iload_n 3, 1) := by decide +kernel
theorem dX2_takesBehindDue_33 : decode cX2_takesBehindDue 33 = .ok (.ifCond .ne 17, 3) := by decide +kernel
theorem dX2_takesBehindDue_36 : decode cX2_takesBehindDue 36 = .ok (.aload_n 0, 1) := by decide +kernel
theorem dX2_takesBehindDue_37 : decode cX2_takesBehindDue 37 = .ok (.getfield 56, 3) := by decide +kernel
theorem dX2_takesBehindDue_40 : decode cX2_takesBehindDue 40 = .ok (.sipush 3000, 3) := by decide +kernel
theorem dX2_takesBehindDue_43 : decode cX2_takesBehindDue 43 = .ok (.if_icmp .gt 7, 3) := by decide +kernel
theorem dX2_takesBehindDue_46 : decode cX2_takesBehindDue 46 = .ok (.iconst 1, 1) := by decide +kernel
theorem dX2_takesBehindDue_47 : decode cX2_takesBehindDue 47 = .ok (.goto 4, 3) := by decide +kernel
theorem dX2_takesBehindDue_50 : decode cX2_takesBehindDue 50 = .ok (.iconst 0, 1) := by decide +kernel
theorem dX2_takesBehindDue_51 : decode cX2_takesBehindDue 51 = .ok (.ireturn, 1) := by decide +kernel
theorem dX2_takesBehindDue_52 : decode cX2_takesBehindDue 52 = .ok (.aload_n 0, 1) := by decide +kernel
theorem dX2_takesBehindDue_53 : decode cX2_takesBehindDue 53 = .ok (.iload_n 1, 1) := by decide +kernel
theorem dX2_takesBehindDue_54 : decode cX2_takesBehindDue 54 = .ok (.invokevirtual 66, 3) := by decide +kernel
theorem dX2_takesBehindDue_57 : decode cX2_takesBehindDue 57 = .ok (.ireturn, 1) := by decide +kernel
set_option maxRecDepth 20000 in
theorem ggX2_takesEndOfJob_X2_endJob : GoodIn wsX2_takesEndOfJob wsX2_endJob := goodIn_r _ [6, 7, 8, 9, 10, 11, 12, 13, 14, 15, 16, 17, 18, 19, 20, 21, 22, 23, 24, 25, 26, 27, 28, 29] (by decide +kernel) (by decide +kernel)
set_option maxRecDepth 20000 in
theorem gX2_takesEndOfJob_X2_endJob : GoodIn wsX2_takesEndOfJob (wsV RX2 36 RX2 yX2_endJob wsX2_endJob) := goodIn_app (goodIn_of _ (by decide +kernel)) ggX2_takesEndOfJob_X2_endJob
theorem dX2_takesEndOfJob_0 : decode cX2_takesEndOfJob 0 = .ok (.iload_n 1, 1) := by decide +kernel
theorem dX2_takesEndOfJob_1 : decode cX2_takesEndOfJob 1 = .ok (.bipush 59, 2) := by decide +kernel
theorem dX2_takesEndOfJob_3 : decode cX2_takesEndOfJob 3 = .ok (.if_icmp .eq 5, 3) := by decide +kernel
theorem dX2_takesEndOfJob_6 : decode cX2_takesEndOfJob 6 = .ok (.iconst 0, 1) := by decide +kernel
theorem dX2_takesEndOfJob_7 : decode cX2_takesEndOfJob 7 = .ok (.ireturn, 1) := by decide +kernel
theorem dX2_takesEndOfJob_8 : decode cX2_takesEndOfJob 8 = .ok (.aload_n 0, 1) := by decide +kernel
theorem dX2_takesEndOfJob_9 : decode cX2_takesEndOfJob 9 = .ok (.invokevirtual 36, 3) := by decide +kernel
theorem dX2_takesEndOfJob_12 : decode cX2_takesEndOfJob 12 = .ok (.aload_n 0, 1) := by decide +kernel
theorem dX2_takesEndOfJob_13 : decode cX2_takesEndOfJob 13 = .ok (.iconst 0, 1) := by decide +kernel
theorem dX2_takesEndOfJob_14 : decode cX2_takesEndOfJob 14 = .ok (.putfield 29, 3) := by decide +kernel
theorem dX2_takesEndOfJob_17 : decode cX2_takesEndOfJob 17 = .ok (.iconst 1, 1) := by decide +kernel
theorem dX2_takesEndOfJob_18 : decode cX2_takesEndOfJob 18 = .ok (.ireturn, 1) := by decide +kernel
set_option maxRecDepth 20000 in
theorem ggX2_endJob_X0_append : GoodIn wsX2_endJob wsX0_append := goodIn_r _ [10, 11, 12, 21, 22, 23] (by decide +kernel) (by decide +kernel)
set_option maxRecDepth 20000 in
theorem gX2_endJob_X0_append : GoodIn wsX2_endJob (wsV RX2 69 RX0 yX0_append wsX0_append) := goodIn_app (goodIn_of _ (by decide +kernel)) ggX2_endJob_X0_append
theorem dX2_endJob_0 : decode cX2_endJob 0 = .ok (.aload_n 0, 1) := by decide +kernel
theorem dX2_endJob_1 : decode cX2_endJob 1 = .ok (.getfield 12, 3) := by decide +kernel
theorem dX2_endJob_4 : decode cX2_endJob 4 = .ok (.aload_n 0, 1) := by decide +kernel
theorem dX2_endJob_5 : decode cX2_endJob 5 = .ok (.getfield 47, 3) := by decide +kernel
theorem dX2_endJob_8 : decode cX2_endJob 8 = .ok (.aload_n 0, 1) := by decide +kernel
theorem dX2_endJob_9 : decode cX2_endJob 9 = .ok (.getfield 50, 3) := by decide +kernel
theorem dX2_endJob_12 : decode cX2_endJob 12 = .ok (.aload_n 0, 1) := by decide +kernel
theorem dX2_endJob_13 : decode cX2_endJob 13 = .ok (.getfield 53, 3) := by decide +kernel
theorem dX2_endJob_16 : decode cX2_endJob 16 = .ok (.aload_n 0, 1) := by decide +kernel
theorem dX2_endJob_17 : decode cX2_endJob 17 = .ok (.getfield 56, 3) := by decide +kernel
theorem dX2_endJob_20 : decode cX2_endJob 20 = .ok (.invokevirtual 69, 3) := by decide +kernel
theorem dX2_endJob_23 : decode cX2_endJob 23 = .ok (.return_, 1) := by decide +kernel
