theorem dX8_init_0 : decode cX8_init 0 = .ok (.aload_n 0, 1) := by decide +kernel
theorem dX8_init_1 : decode cX8_init 1 = .ok (.invokespecial 1, 3) := by decide +kernel
theorem dX8_init_4 : decode cX8_init 4 = .ok (.aload_n 0, 1) := by decide +kernel
theorem dX8_init_5 : decode cX8_init 5 = .ok (.sipush 532, 3) := by decide +kernel
theorem dX8_init_8 : decode cX8_init 8 = .ok (.newarray .int, 2) := by decide +kernel
theorem dX8_init_10 : decode cX8_init 10 = .ok (.putfield 7, 3) := by decide +kernel
theorem dX8_init_13 : decode cX8_init 13 = .ok (.aload_n 0, 1) := by decide +kernel
theorem dX8_init_14 : decode cX8_init 14 = .ok (.sipush 532, 3) := by decide +kernel
theorem dX8_init_17 : decode cX8_init 17 = .ok (.newarray .int, 2) := by decide +kernel
theorem dX8_init_19 : decode cX8_init 19 = .ok (.putfield 13, 3) := by decide +kernel
theorem dX8_init_22 : decode cX8_init 22 = .ok (.aload_n 0, 1) := by decide +kernel
theorem dX8_init_23 : decode cX8_init 23 = .ok (.sipush 2128, 3) := by decide +kernel
theorem dX8_init_26 : decode cX8_init 26 = .ok (.newarray .int, 2) := by decide +kernel
theorem dX8_init_28 : decode cX8_init 28 = .ok (.putfield 16, 3) := by decide +kernel
theorem dX8_init_31 : decode cX8_init 31 = .ok (.aload_n 0, 1) := by decide +kernel
theorem dX8_init_32 : decode cX8_init 32 = .ok (.sipush 532, 3) := by decide +kernel
theorem dX8_init_35 : decode cX8_init 35 = .ok (.newarray .int, 2) := by decide +kernel
theorem dX8_init_37 : decode cX8_init 37 = .ok (.putfield 19, 3) := by decide +kernel
theorem dX8_init_40 : decode cX8_init 40 = .ok (.aload_n 0, 1) := by decide +kernel
theorem dX8_init_41 : decode cX8_init 41 = .ok (.bipush 60, 2) := by decide +kernel
theorem dX8_init_43 : decode cX8_init 43 = .ok (.newarray .char, 2) := by decide +kernel
theorem dX8_init_45 : decode cX8_init 45 = .ok (.putfield 22, 3) := by decide +kernel
theorem dX8_init_48 : decode cX8_init 48 = .ok (.aload_n 0, 1) := by decide +kernel
theorem dX8_init_49 : decode cX8_init 49 = .ok (.bipush 80, 2) := by decide +kernel
theorem dX8_init_51 : decode cX8_init 51 = .ok (.newarray .int, 2) := by decide +kernel
theorem dX8_init_53 : decode cX8_init 53 = .ok (.putfield 26, 3) := by decide +kernel
theorem dX8_init_56 : decode cX8_init 56 = .ok (.aload_n 0, 1) := by decide +kernel
theorem dX8_init_57 : decode cX8_init 57 = .ok (.bipush 60, 2) := by decide +kernel
theorem dX8_init_59 : decode cX8_init 59 = .ok (.newarray .int, 2) := by decide +kernel
theorem dX8_init_61 : decode cX8_init 61 = .ok (.putfield 29, 3) := by decide +kernel
theorem dX8_init_64 : decode cX8_init 64 = .ok (.aload_n 0, 1) := by decide +kernel
theorem dX8_init_65 : decode cX8_init 65 = .ok (.bipush 93, 2) := by decide +kernel
theorem dX8_init_67 : decode cX8_init 67 = .ok (.newarray .int, 2) := by decide +kernel
theorem dX8_init_69 : decode cX8_init 69 = .ok (.putfield 32, 3) := by decide +kernel
theorem dX8_init_72 : decode cX8_init 72 = .ok (.aload_n 0, 1) := by decide +kernel
theorem dX8_init_73 : decode cX8_init 73 = .ok (.getfield 7, 3) := by decide +kernel
theorem dX8_init_76 : decode cX8_init 76 = .ok (.bipush 8, 2) := by decide +kernel
theorem dX8_init_78 : decode cX8_init 78 = .ok (.bipush 6, 2) := by decide +kernel
theorem dX8_init_80 : decode cX8_init 80 = .ok (.iastore, 1) := by decide +kernel
theorem dX8_init_81 : decode cX8_init 81 = .ok (.aload_n 0, 1) := by decide +kernel
theorem dX8_init_82 : decode cX8_init 82 = .ok (.getfield 7, 3) := by decide +kernel
theorem dX8_init_85 : decode cX8_init 85 = .ok (.bipush 9, 2) := by decide +kernel
theorem dX8_init_87 : decode cX8_init 87 = .ok (.iconst 2, 1) := by decide +kernel
theorem dX8_init_88 : decode cX8_init 88 = .ok (.iastore, 1) := by decide +kernel
theorem dX8_init_89 : decode cX8_init 89 = .ok (.aload_n 0, 1) := by decide +kernel
theorem dX8_init_90 : decode cX8_init 90 = .ok (.getfield 7, 3) := by decide +kernel
theorem dX8_init_93 : decode cX8_init 93 = .ok (.bipush 11, 2) := by decide +kernel
theorem dX8_init_95 : decode cX8_init 95 = .ok (.iconst 1, 1) := by decide +kernel
theorem dX8_init_96 : decode cX8_init 96 = .ok (.iastore, 1) := by decide +kernel
theorem dX8_init_97 : decode cX8_init 97 = .ok (.return_, 1) := by decide +kernel
theorem dX8_in_0 : decode cX8_in 0 = .ok (.iload_n 0, 1) := by decide +kernel
theorem dX8_in_1 : decode cX8_in 1 = .ok (.iload_n 1, 1) := by decide +kernel
theorem dX8_in_2 : decode cX8_in 2 = .ok (.if_icmp .lt 12, 3) := by decide +kernel
theorem dX8_in_5 : decode cX8_in 5 = .ok (.iload_n 0, 1) := by decide +kernel
theorem dX8_in_6 : decode cX8_in 6 = .ok (.iload_n 2, 1) := by decide +kernel
theorem dX8_in_7 : decode cX8_in 7 = .ok (.if_icmp .gt 7, 3) := by decide +kernel
theorem dX8_in_10 : decode cX8_in 10 = .ok (.iconst 1, 1) := by decide +kernel
theorem dX8_in_11 : decode cX8_in 11 = .ok (.goto 4, 3) := by decide +kernel
theorem dX8_in_14 : decode cX8_in 14 = .ok (.iconst 0, 1) := by decide +kernel
theorem dX8_in_15 : decode cX8_in 15 = .ok (.ireturn, 1) := by decide +kernel
theorem dX8_lays_0 : decode cX8_lays 0 = .ok (.iconst 0, 1) := by decide +kernel
theorem dX8_lays_1 : decode cX8_lays 1 = .ok (.istore 4, 2) := by decide +kernel
theorem dX8_lays_3 : decode cX8_lays 3 = .ok (.iload 4, 2) := by decide +kernel
theorem dX8_lays_5 : decode cX8_lays 5 = .ok (.sipush 532, 3) := by decide +kernel
theorem dX8_lays_8 : decode cX8_lays 8 = .ok (.if_icmp .ge 21, 3) := by decide +kernel
theorem dX8_lays_11 : decode cX8_lays 11 = .ok (.aload_n 2, 1) := by decide +kernel
theorem dX8_lays_12 : decode cX8_lays 12 = .ok (.iload_n 3, 1) := by decide +kernel
theorem dX8_lays_13 : decode cX8_lays 13 = .ok (.iload 4, 2) := by decide +kernel
theorem dX8_lays_15 : decode cX8_lays 15 = .ok (.iadd, 1) := by decide +kernel
theorem dX8_lays_16 : decode cX8_lays 16 = .ok (.aload_n 0, 1) := by decide +kernel
theorem dX8_lays_17 : decode cX8_lays 17 = .ok (.iload_n 1, 1) := by decide +kernel
theorem dX8_lays_18 : decode cX8_lays 18 = .ok (.iload 4, 2) := by decide +kernel
theorem dX8_lays_20 : decode cX8_lays 20 = .ok (.iadd, 1) := by decide +kernel
theorem dX8_lays_21 : decode cX8_lays 21 = .ok (.iaload, 1) := by decide +kernel
theorem dX8_lays_22 : decode cX8_lays 22 = .ok (.iastore, 1) := by decide +kernel
theorem dX8_lays_23 : decode cX8_lays 23 = .ok (.iinc 4 1, 3) := by decide +kernel
theorem dX8_lays_26 : decode cX8_lays 26 = .ok (.goto (-23), 3) := by decide +kernel
theorem dX8_lays_29 : decode cX8_lays 29 = .ok (.return_, 1) := by decide +kernel
set_option maxRecDepth 20000 in
theorem ggX8_records_X8_lays : GoodIn wsX8_records wsX8_lays := goodIn_r _ [6] (by decide +kernel) (by decide +kernel)
set_option maxRecDepth 20000 in
theorem gX8_records_X8_lays : GoodIn wsX8_records (va_wsS RX8 39 yX8_lays wsX8_lays) := goodIn_app (goodIn_of _ (by decide +kernel)) ggX8_records_X8_lays
theorem dX8_records_0 : decode cX8_records 0 = .ok (.aload_n 0, 1) := by decide +kernel
theorem dX8_records_1 : decode cX8_records 1 = .ok (.getfield 35, 3) := by decide +kernel
theorem dX8_records_4 : decode cX8_records 4 = .ok (.iconst 4, 1) := by decide +kernel
theorem dX8_records_5 : decode cX8_records 5 = .ok (.if_icmp .ne 44, 3) := by decide +kernel
theorem dX8_records_8 : decode cX8_records 8 = .ok (.iconst 0, 1) := by decide +kernel
theorem dX8_records_9 : decode cX8_records 9 = .ok (.istore_n 2, 1) := by decide +kernel
theorem dX8_records_10 : decode cX8_records 10 = .ok (.iload_n 2, 1) := by decide +kernel
theorem dX8_records_11 : decode cX8_records 11 = .ok (.sipush 1596, 3) := by decide +kernel
theorem dX8_records_14 : decode cX8_records 14 = .ok (.if_icmp .ge 25, 3) := by decide +kernel
theorem dX8_records_17 : decode cX8_records 17 = .ok (.aload_n 0, 1) := by decide +kernel
theorem dX8_records_18 : decode cX8_records 18 = .ok (.getfield 16, 3) := by decide +kernel
theorem dX8_records_21 : decode cX8_records 21 = .ok (.iload_n 2, 1) := by decide +kernel
theorem dX8_records_22 : decode cX8_records 22 = .ok (.aload_n 0, 1) := by decide +kernel
theorem dX8_records_23 : decode cX8_records 23 = .ok (.getfield 16, 3) := by decide +kernel
theorem dX8_records_26 : decode cX8_records 26 = .ok (.iload_n 2, 1) := by decide +kernel
theorem dX8_records_27 : decode cX8_records 27 = .ok (.sipush 532, 3) := by decide +kernel
theorem dX8_records_30 : decode cX8_records 30 = .ok (.iadd, 1) := by decide +kernel
theorem dX8_records_31 : decode cX8_records 31 = .ok (.iaload, 1) := by decide +kernel
theorem dX8_records_32 : decode cX8_records 32 = .ok (.iastore, 1) := by decide +kernel
theorem dX8_records_33 : decode cX8_records 33 = .ok (.iinc 2 1, 3) := by decide +kernel
theorem dX8_records_36 : decode cX8_records 36 = .ok (.goto (-26), 3) := by decide +kernel
theorem dX8_records_39 : decode cX8_records 39 = .ok (.aload_n 0, 1) := by decide +kernel
theorem dX8_records_40 : decode cX8_records 40 = .ok (.dup, 1) := by decide +kernel
theorem dX8_records_41 : decode cX8_records 41 = .ok (.getfield 35, 3) := by decide +kernel
theorem dX8_records_44 : decode cX8_records 44 = .ok (.iconst 1, 1) := by decide +kernel
theorem dX8_records_45 : decode cX8_records 45 = .ok (.isub, 1) := by decide +kernel
theorem dX8_records_46 : decode cX8_records 46 = .ok (.putfield 35, 3) := by decide +kernel
theorem dX8_records_49 : decode cX8_records 49 = .ok (.aload_n 1, 1) := by decide +kernel
theorem dX8_records_50 : decode cX8_records 50 = .ok (.iconst 0, 1) := by decide +kernel
theorem dX8_records_51 : decode cX8_records 51 = .ok (.aload_n 0, 1) := by decide +kernel
theorem dX8_records_52 : decode cX8_records 52 = .ok (.getfield 16, 3) := by decide +kernel
theorem dX8_records_55 : decode cX8_records 55 = .ok (.sipush 532, 3) := by decide +kernel
theorem dX8_records_58 : decode cX8_records 58 = .ok (.aload_n 0, 1) := by decide +kernel
theorem dX8_records_59 : decode cX8_records 59 = .ok (.getfield 35, 3) := by decide +kernel
theorem dX8_records_62 : decode cX8_records 62 = .ok (.imul, 1) := by decide +kernel
theorem dX8_records_63 : decode cX8_records 63 = .ok (.invokestatic 39, 3) := by decide +kernel
theorem dX8_records_66 : decode cX8_records 66 = .ok (.aload_n 0, 1) := by decide +kernel
theorem dX8_records_67 : decode cX8_records 67 = .ok (.dup, 1) := by decide +kernel
theorem dX8_records_68 : decode cX8_records 68 = .ok (.getfield 35, 3) := by decide +kernel
theorem dX8_records_71 : decode cX8_records 71 = .ok (.iconst 1, 1) := by decide +kernel
theorem dX8_records_72 : decode cX8_records 72 = .ok (.iadd, 1) := by decide +kernel
theorem dX8_records_73 : decode cX8_records 73 = .ok (.putfield 35, 3) := by decide +kernel
theorem dX8_records_76 : decode cX8_records 76 = .ok (.return_, 1) := by decide +kernel
theorem dX8_clears_0 : decode cX8_clears 0 = .ok (.iconst 0, 1) := by decide +kernel
theorem dX8_clears_1 : decode cX8_clears 1 = .ok (.istore_n 1, 1) := by decide +kernel
theorem dX8_clears_2 : decode cX8_clears 2 = .ok (.iload_n 1, 1) := by decide +kernel
theorem dX8_clears_3 : decode cX8_clears 3 = .ok (.bipush 8, 2) := by decide +kernel
theorem dX8_clears_5 : decode cX8_clears 5 = .ok (.if_icmp .ge 16, 3) := by decide +kernel
theorem dX8_clears_8 : decode cX8_clears 8 = .ok (.aload_n 0, 1) := by decide +kernel
theorem dX8_clears_9 : decode cX8_clears 9 = .ok (.getfield 7, 3) := by decide +kernel
theorem dX8_clears_12 : decode cX8_clears 12 = .ok (.iload_n 1, 1) := by decide +kernel
theorem dX8_clears_13 : decode cX8_clears 13 = .ok (.iconst 0, 1) := by decide +kernel
theorem dX8_clears_14 : decode cX8_clears 14 = .ok (.iastore, 1) := by decide +kernel
theorem dX8_clears_15 : decode cX8_clears 15 = .ok (.iinc 1 1, 3) := by decide +kernel
theorem dX8_clears_18 : decode cX8_clears 18 = .ok (.goto (-16), 3) := by decide +kernel
theorem dX8_clears_21 : decode cX8_clears 21 = .ok (.bipush 12, 2) := by decide +kernel
theorem dX8_clears_23 : decode cX8_clears 23 = .ok (.istore_n 1, 1) := by decide +kernel
theorem dX8_clears_24 : decode cX8_clears 24 = .ok (.iload_n 1, 1) := by decide +kernel
theorem dX8_clears_25 : decode cX8_clears 25 = .ok (.sipush 532, 3) := by decide +kernel
theorem dX8_clears_28 : decode cX8_clears 28 = .ok (.if_icmp .ge 16, 3) := by decide +kernel
theorem dX8_clears_31 : decode cX8_clears 31 = .ok (.aload_n 0, 1) := by decide +kernel
theorem dX8_clears_32 : decode cX8_clears 32 = .ok (.getfield 7, 3) := by decide +kernel
theorem dX8_clears_35 : decode cX8_clears 35 = .ok (.iload_n 1, 1) := by decide +kernel
theorem dX8_clears_36 : decode cX8_clears 36 = .ok (.iconst 0, 1) := by decide +kernel
theorem dX8_clears_37 : decode cX8_clears 37 = .ok (.iastore, 1) := by decide +kernel
theorem dX8_clears_38 : decode cX8_clears 38 = .ok (.iinc 1 1, 3) := by decide +kernel
theorem dX8_clears_41 : decode cX8_clears 41 = .ok (.goto (-17), 3) := by decide +kernel
theorem dX8_clears_44 : decode cX8_clears 44 = .ok (.return_, 1) := by decide +kernel
theorem dX8_adds_0 : decode cX8_adds 0 = .ok (.aload_n 0, 1) := by decide +kernel
theorem dX8_adds_1 : decode cX8_adds 1 = .ok (.getfield 7, 3) := by decide +kernel
theorem dX8_adds_4 : decode cX8_adds 4 = .ok (.iconst 0, 1) := by decide +kernel
theorem dX8_adds_5 : decode cX8_adds 5 = .ok (.iaload, 1) := by decide +kernel
theorem dX8_adds_6 : decode cX8_adds 6 = .ok (.istore 4, 2) := by decide +kernel
theorem dX8_adds_8 : decode cX8_adds 8 = .ok (.aload_n 0, 1) := by decide +kernel
theorem dX8_adds_9 : decode cX8_adds 9 = .ok (.getfield 7, 3) := by decide +kernel
theorem dX8_adds_12 : decode cX8_adds 12 = .ok (.bipush 12, 2) := by decide +kernel
theorem dX8_adds_14 : decode cX8_adds 14 = .ok (.iload 4, 2) := by decide +kernel
theorem dX8_adds_16 : decode cX8_adds 16 = .ok (.iadd, 1) := by decide +kernel
theorem dX8_adds_17 : decode cX8_adds 17 = .ok (.iload_n 1, 1) := by decide +kernel
theorem dX8_adds_18 : decode cX8_adds 18 = .ok (.iastore, 1) := by decide +kernel
theorem dX8_adds_19 : decode cX8_adds 19 = .ok (.aload_n 0, 1) := by decide +kernel
theorem dX8_adds_20 : decode cX8_adds 20 = .ok (.getfield 7, 3) := by decide +kernel
theorem dX8_adds_23 : decode cX8_adds 23 = .ok (.bipush 42, 2) := by decide +kernel
theorem dX8_adds_25 : decode cX8_adds 25 = .ok (.iload 4, 2) := by decide +kernel
theorem dX8_adds_27 : decode cX8_adds 27 = .ok (.iadd, 1) := by decide +kernel
theorem dX8_adds_28 : decode cX8_adds 28 = .ok (.iload_n 2, 1) := by decide +kernel
theorem dX8_adds_29 : decode cX8_adds 29 = .ok (.iastore, 1) := by decide +kernel
theorem dX8_adds_30 : decode cX8_adds 30 = .ok (.iconst 2, 1) := by decide +kernel
theorem dX8_adds_31 : decode cX8_adds 31 = .ok (.iload 4, 2) := by decide +kernel
theorem dX8_adds_33 : decode cX8_adds 33 = .ok (.imul, 1) := by decide +kernel
theorem dX8_adds_34 : decode cX8_adds 34 = .ok (.istore 5, 2) := by decide +kernel
theorem dX8_adds_36 : decode cX8_adds 36 = .ok (.iload 5, 2) := by decide +kernel
theorem dX8_adds_38 : decode cX8_adds 38 = .ok (.iconst 2, 1) := by decide +kernel
theorem dX8_adds_39 : decode cX8_adds 39 = .ok (.iload 4, 2) := by decide +kernel
theorem dX8_adds_41 : decode cX8_adds 41 = .ok (.imul, 1) := by decide +kernel
theorem dX8_adds_42 : decode cX8_adds 42 = .ok (.iconst 2, 1) := by decide +kernel
theorem dX8_adds_43 : decode cX8_adds 43 = .ok (.iadd, 1) := by decide +kernel
theorem dX8_adds_44 : decode cX8_adds 44 = .ok (.if_icmp .ge 34, 3) := by decide +kernel
theorem dX8_adds_47 : decode cX8_adds 47 = .ok (.aload_n 0, 1) := by decide +kernel
theorem dX8_adds_48 : decode cX8_adds 48 = .ok (.getfield 7, 3) := by decide +kernel
theorem dX8_adds_51 : decode cX8_adds 51 = .ok (.bipush 72, 2) := by decide +kernel
theorem dX8_adds_53 : decode cX8_adds 53 = .ok (.iload 5, 2) := by decide +kernel
theorem dX8_adds_55 : decode cX8_adds 55 = .ok (.iadd, 1) := by decide +kernel
theorem dX8_adds_56 : decode cX8_adds 56 = .ok (.iload_n 3, 1) := by decide +kernel
theorem dX8_adds_57 : decode cX8_adds 57 = .ok (.bipush (-5), 2) := by decide +kernel
theorem dX8_adds_59 : decode cX8_adds 59 = .ok (.if_icmp .ne 8, 3) := by decide +kernel
theorem dX8_adds_62 : decode cX8_adds 62 = .ok (.bipush (-5), 2) := by decide +kernel
theorem dX8_adds_64 : decode cX8_adds 64 = .ok (.goto 7, 3) := by decide +kernel
theorem dX8_adds_67 : decode cX8_adds 67 = .ok (.iload 5, 2) := by decide +kernel
theorem dX8_adds_69 : decode cX8_adds 69 = .ok (.iload_n 3, 1) := by decide +kernel
theorem dX8_adds_70 : decode cX8_adds 70 = .ok (.iadd, 1) := by decide +kernel
theorem dX8_adds_71 : decode cX8_adds 71 = .ok (.iastore, 1) := by decide +kernel
theorem dX8_adds_72 : decode cX8_adds 72 = .ok (.iinc 5 1, 3) := by decide +kernel
theorem dX8_adds_75 : decode cX8_adds 75 = .ok (.goto (-39), 3) := by decide +kernel
theorem dX8_adds_78 : decode cX8_adds 78 = .ok (.aload_n 0, 1) := by decide +kernel
theorem dX8_adds_79 : decode cX8_adds 79 = .ok (.getfield 7, 3) := by decide +kernel
theorem dX8_adds_82 : decode cX8_adds 82 = .ok (.iconst 0, 1) := by decide +kernel
theorem dX8_adds_83 : decode cX8_adds 83 = .ok (.dup2, 1) := by decide +kernel
theorem dX8_adds_84 : decode cX8_adds 84 = .ok (.iaload, 1) := by decide +kernel
theorem dX8_adds_85 : decode cX8_adds 85 = .ok (.iconst 1, 1) := by decide +kernel
theorem dX8_adds_86 : decode cX8_adds 86 = .ok (.iadd, 1) := by decide +kernel
theorem dX8_adds_87 : decode cX8_adds 87 = .ok (.iastore, 1) := by decide +kernel
theorem dX8_adds_88 : decode cX8_adds 88 = .ok (.return_, 1) := by decide +kernel
set_option maxRecDepth 20000 in
theorem ggX8_takeBook_X8_fault : GoodIn wsX8_takeBook wsX8_fault := goodIn_r _ [8, 9, 2, 10, 11, 12, 13, 7, 14, 3, 15, 16, 17, 18, 19, 20, 21, 22, 23, 24, 25, 26, 27, 28, 29, 30, 48, 49, 50, 51, 52, 53, 54, 55, 56, 57, 58, 59, 60] (by decide +kernel) (by decide +kernel)
set_option maxRecDepth 20000 in
theorem gX8_takeBook_X8_fault : GoodIn wsX8_takeBook (wsV RX8 43 RX8 yX8_fault wsX8_fault) := goodIn_app (goodIn_of _ (by decide +kernel)) ggX8_takeBook_X8_fault
set_option maxRecDepth 20000 in
theorem ggX8_takeBook_X8_records : GoodIn wsX8_takeBook wsX8_records := goodIn_r _ [34, 35, 36, 37, 38, 7, 39, 48, 49, 50, 51, 52, 53, 54, 55, 56, 57, 58, 59, 60] (by decide +kernel) (by decide +kernel)
set_option maxRecDepth 20000 in
theorem gX8_takeBook_X8_records : GoodIn wsX8_takeBook (wsV RX8 47 RX8 yX8_records wsX8_records) := goodIn_app (goodIn_of _ (by decide +kernel)) ggX8_takeBook_X8_records
set_option maxRecDepth 20000 in
theorem ggX8_takeBook_X8_clears : GoodIn wsX8_takeBook wsX8_clears := goodIn_r _ [43, 1, 48, 49, 50, 51, 52, 53, 54, 55, 56, 57, 58, 59, 60] (by decide +kernel) (by decide +kernel)
set_option maxRecDepth 20000 in
theorem gX8_takeBook_X8_clears : GoodIn wsX8_takeBook (wsV RX8 51 RX8 yX8_clears wsX8_clears) := goodIn_app (goodIn_of _ (by decide +kernel)) ggX8_takeBook_X8_clears
set_option maxRecDepth 20000 in
theorem ggX8_takeBook_X8_adds : GoodIn wsX8_takeBook wsX8_adds := goodIn_r _ [47, 1, 48, 49, 50, 51, 52, 53, 54, 55, 56, 57, 58, 59, 60] (by decide +kernel) (by decide +kernel)
set_option maxRecDepth 20000 in
theorem gX8_takeBook_X8_adds : GoodIn wsX8_takeBook (wsV RX8 57 RX8 yX8_adds wsX8_adds) := goodIn_app (goodIn_of _ (by decide +kernel)) ggX8_takeBook_X8_adds
theorem dX8_takeBook_0 : decode cX8_takeBook 0 = .ok (.aload_n 0, 1) := by decide +kernel
theorem dX8_takeBook_1 : decode cX8_takeBook 1 = .ok (.invokevirtual 43, 3) := by decide +kernel
theorem dX8_takeBook_4 : decode cX8_takeBook 4 = .ok (.istore_n 1, 1) := by decide +kernel
theorem dX8_takeBook_5 : decode cX8_takeBook 5 = .ok (.iload_n 1, 1) := by decide +kernel
theorem dX8_takeBook_6 : decode cX8_takeBook 6 = .ok (.bipush (-5), 2) := by decide +kernel
theorem dX8_takeBook_8 : decode cX8_takeBook 8 = .ok (.if_icmp .eq 8, 3) := by decide +kernel
theorem dX8_takeBook_11 : decode cX8_takeBook 11 = .ok (.bipush (-100), 2) := by decide +kernel
theorem dX8_takeBook_13 : decode cX8_takeBook 13 = .ok (.iload_n 1, 1) := by decide +kernel
theorem dX8_takeBook_14 : decode cX8_takeBook 14 = .ok (.isub, 1) := by decide +kernel
theorem dX8_takeBook_15 : decode cX8_takeBook 15 = .ok (.ireturn, 1) := by decide +kernel
theorem dX8_takeBook_16 : decode cX8_takeBook 16 = .ok (.aload_n 0, 1) := by decide +kernel
theorem dX8_takeBook_17 : decode cX8_takeBook 17 = .ok (.aload_n 0, 1) := by decide +kernel
theorem dX8_takeBook_18 : decode cX8_takeBook 18 = .ok (.getfield 7, 3) := by decide +kernel
theorem dX8_takeBook_21 : decode cX8_takeBook 21 = .ok (.invokevirtual 47, 3) := by decide +kernel
theorem dX8_takeBook_24 : decode cX8_takeBook 24 = .ok (.aload_n 0, 1) := by decide +kernel
theorem dX8_takeBook_25 : decode cX8_takeBook 25 = .ok (.invokevirtual 51, 3) := by decide +kernel
theorem dX8_takeBook_28 : decode cX8_takeBook 28 = .ok (.iconst 0, 1) := by decide +kernel
theorem dX8_takeBook_29 : decode cX8_takeBook 29 = .ok (.istore_n 2, 1) := by decide +kernel
theorem dX8_takeBook_30 : decode cX8_takeBook 30 = .ok (.iload_n 2, 1) := by decide +kernel
theorem dX8_takeBook_31 : decode cX8_takeBook 31 = .ok (.aload_n 0, 1) := by decide +kernel
theorem dX8_takeBook_32 : decode cX8_takeBook 32 = .ok (.getfield 54, 3) := by decide +kernel
theorem dX8_takeBook_35 : decode cX8_takeBook 35 = .ok (.if_icmp .ge 41, 3) := by decide +kernel
theorem dX8_takeBook_38 : decode cX8_takeBook 38 = .ok (.aload_n 0, 1) := by decide +kernel
theorem dX8_takeBook_39 : decode cX8_takeBook 39 = .ok (.aload_n 0, 1) := by decide +kernel
theorem dX8_takeBook_40 : decode cX8_takeBook 40 = .ok (.getfield 32, 3) := by decide +kernel
theorem dX8_takeBook_43 : decode cX8_takeBook 43 = .ok (.iconst 3, 1) := by decide +kernel
theorem dX8_takeBook_44 : decode cX8_takeBook 44 = .ok (.iload_n 2, 1) := by decide +kernel
theorem dX8_takeBook_45 : decode cX8_takeBook 45 = .ok (.imul, 1) := by decide +kernel
theorem dX8_takeBook_46 : decode cX8_takeBook 46 = .ok (.iaload, 1) := by decide +kernel
theorem dX8_takeBook_47 : decode cX8_takeBook 47 = .ok (.aload_n 0, 1) := by decide +kernel
theorem dX8_takeBook_48 : decode cX8_takeBook 48 = .ok (.getfield 32, 3) := by decide +kernel
theorem dX8_takeBook_51 : decode cX8_takeBook 51 = .ok (.iconst 3, 1) := by decide +kernel
theorem dX8_takeBook_52 : decode cX8_takeBook 52 = .ok (.iload_n 2, 1) := by decide +kernel
theorem dX8_takeBook_53 : decode cX8_takeBook 53 = .ok (.imul, 1) := by decide +kernel
theorem dX8_takeBook_54 : decode cX8_takeBook 54 = .ok (.iconst 1, 1) := by decide +kernel
theorem dX8_takeBook_55 : decode cX8_takeBook 55 = .ok (.iadd, 1) := by decide +kernel
theorem dX8_takeBook_56 : decode cX8_takeBook 56 = .ok (.iaload, 1) := by decide +kernel
theorem dX8_takeBook_57 : decode cX8_takeBook 57 = .ok (.aload_n 0, 1) := by decide +kernel
theorem dX8_takeBook_58 : decode cX8_takeBook 58 = .ok (.getfield 32, 3) := by decide +kernel
theorem dX8_takeBook_61 : decode cX8_takeBook 61 = .ok (.iconst 3, 1) := by decide +kernel
theorem dX8_takeBook_62 : decode cX8_takeBook 62 = .ok (.iload_n 2, 1) := by decide +kernel
theorem dX8_takeBook_63 : decode cX8_takeBook 63 = .ok (.imul, 1) := by decide +kernel
theorem dX8_takeBook_64 : decode cX8_takeBook 64 = .ok (.iconst 2, 1) := by decide +kernel
theorem dX8_takeBook_65 : decode cX8_takeBook 65 = .ok (.iadd, 1) := by decide +kernel
theorem dX8_takeBook_66 : decode cX8_takeBook 66 = .ok (.iaload, 1) := by decide +kernel
theorem dX8_takeBook_67 : decode cX8_takeBook 67 = .ok (.invokevirtual 57, 3) := by decide +kernel
theorem dX8_takeBook_70 : decode cX8_takeBook 70 = .ok (.iinc 2 1, 3) := by decide +kernel
theorem dX8_takeBook_73 : decode cX8_takeBook 73 = .ok (.goto (-43), 3) := by decide +kernel
theorem dX8_takeBook_76 : decode cX8_takeBook 76 = .ok (.aload_n 0, 1) := by decide +kernel
theorem dX8_takeBook_77 : decode cX8_takeBook 77 = .ok (.getfield 54, 3) := by decide +kernel
theorem dX8_takeBook_80 : decode cX8_takeBook 80 = .ok (.ireturn, 1) := by decide +kernel
set_option maxRecDepth 20000 in
theorem ggX8_layBook_X8_in : GoodIn wsX8_layBook wsX8_in := goodIn_r _ [5] (by decide +kernel) (by decide +kernel)
set_option maxRecDepth 20000 in
theorem gX8_layBook_X8_in : GoodIn wsX8_layBook (va_wsS RX8 61 yX8_in wsX8_in) := goodIn_app (goodIn_of _ (by decide +kernel)) ggX8_layBook_X8_in
set_option maxRecDepth 20000 in
theorem ggX8_layBook_X8_records : GoodIn wsX8_layBook wsX8_records := goodIn_r _ [9, 10, 11, 12, 13, 4, 14, 23, 24, 25, 26, 27, 28, 29, 30, 31, 32, 33, 34, 35] (by decide +kernel) (by decide +kernel)
set_option maxRecDepth 20000 in
theorem gX8_layBook_X8_records : GoodIn wsX8_layBook (wsV RX8 47 RX8 yX8_records wsX8_records) := goodIn_app (goodIn_of _ (by decide +kernel)) ggX8_layBook_X8_records
set_option maxRecDepth 20000 in
theorem ggX8_layBook_X8_clears : GoodIn wsX8_layBook wsX8_clears := goodIn_r _ [18, 1, 23, 24, 25, 26, 27, 28, 29, 30, 31, 32, 33, 34, 35] (by decide +kernel) (by decide +kernel)
set_option maxRecDepth 20000 in
theorem gX8_layBook_X8_clears : GoodIn wsX8_layBook (wsV RX8 51 RX8 yX8_clears wsX8_clears) := goodIn_app (goodIn_of _ (by decide +kernel)) ggX8_layBook_X8_clears
set_option maxRecDepth 20000 in
theorem ggX8_layBook_X8_adds : GoodIn wsX8_layBook wsX8_adds := goodIn_r _ [22, 1, 23, 24, 25, 26, 27, 28, 29, 30, 31, 32, 33, 34, 35] (by decide +kernel) (by decide +kernel)
set_option maxRecDepth 20000 in
theorem gX8_layBook_X8_adds : GoodIn wsX8_layBook (wsV RX8 57 RX8 yX8_adds wsX8_adds) := goodIn_app (goodIn_of _ (by decide +kernel)) ggX8_layBook_X8_adds
theorem dX8_layBook_0 : decode cX8_layBook 0 = .ok (.iload_n 1, 1) := by decide +kernel
theorem dX8_layBook_1 : decode cX8_layBook 1 = .ok (.iconst 1, 1) := by decide +kernel
theorem dX8_layBook_2 : decode cX8_layBook 2 = .ok (.bipush 30, 2) := by decide +kernel
theorem dX8_layBook_4 : decode cX8_layBook 4 = .ok (.invokestatic 61, 3) := by decide +kernel
theorem dX8_layBook_7 : decode cX8_layBook 7 = .ok (.ifCond .eq 14, 3) := by decide +kernel
theorem dX8_layBook_10 : decode cX8_layBook 10 = .ok (.iload_n 2, 1) := by decide +kernel
theorem dX8_layBook_11 : decode cX8_layBook 11 = .ok (.iconst 0, 1) := by decide +kernel
theorem dX8_layBook_12 : decode cX8_layBook 12 = .ok (.sipush 9999, 3) := by decide +kernel
theorem dX8_layBook_15 : decode cX8_layBook 15 = .ok (.invokestatic 61, 3) := by decide +kernel
theorem dX8_layBook_18 : decode cX8_layBook 18 = .ok (.ifCond .ne 6, 3) := by decide +kernel
theorem dX8_layBook_21 : decode cX8_layBook 21 = .ok (.bipush (-2), 2) := by decide +kernel
theorem dX8_layBook_23 : decode cX8_layBook 23 = .ok (.ireturn, 1) := by decide +kernel
theorem dX8_layBook_24 : decode cX8_layBook 24 = .ok (.aload_n 0, 1) := by decide +kernel
theorem dX8_layBook_25 : decode cX8_layBook 25 = .ok (.aload_n 0, 1) := by decide +kernel
theorem dX8_layBook_26 : decode cX8_layBook 26 = .ok (.getfield 7, 3) := by decide +kernel
theorem dX8_layBook_29 : decode cX8_layBook 29 = .ok (.invokevirtual 47, 3) := by decide +kernel
theorem dX8_layBook_32 : decode cX8_layBook 32 = .ok (.aload_n 0, 1) := by decide +kernel
theorem dX8_layBook_33 : decode cX8_layBook 33 = .ok (.invokevirtual 51, 3) := by decide +kernel
theorem dX8_layBook_36 : decode cX8_layBook 36 = .ok (.iload_n 2, 1) := by decide +kernel
theorem dX8_layBook_37 : decode cX8_layBook 37 = .ok (.istore_n 3, 1) := by decide +kernel
theorem dX8_layBook_38 : decode cX8_layBook 38 = .ok (.iconst 0, 1) := by decide +kernel
theorem dX8_layBook_39 : decode cX8_layBook 39 = .ok (.istore 4, 2) := by decide +kernel
theorem dX8_layBook_41 : decode cX8_layBook 41 = .ok (.iconst 0, 1) := by decide +kernel
theorem dX8_layBook_42 : decode cX8_layBook 42 = .ok (.istore 5, 2) := by decide +kernel
theorem dX8_layBook_44 : decode cX8_layBook 44 = .ok (.iload 5, 2) := by decide +kernel
theorem dX8_layBook_46 : decode cX8_layBook 46 = .ok (.iload_n 1, 1) := by decide +kernel
theorem dX8_layBook_47 : decode cX8_layBook 47 = .ok (.if_icmp .ge 80, 3) := by decide +kernel
theorem dX8_layBook_50 : decode cX8_layBook 50 = .ok (.sipush 421, 3) := by decide +kernel
theorem dX8_layBook_53 : decode cX8_layBook 53 = .ok (.iload_n 3, 1) := by decide +kernel
theorem dX8_layBook_54 : decode cX8_layBook 54 = .ok (.imul, 1) := by decide +kernel
theorem dX8_layBook_55 : decode cX8_layBook 55 = .ok (.sipush 1663, 3) := by decide +kernel
theorem dX8_layBook_58 : decode cX8_layBook 58 = .ok (.iadd, 1) := by decide +kernel
theorem dX8_layBook_59 : decode cX8_layBook 59 = .ok (.sipush 10000, 3) := by decide +kernel
theorem dX8_layBook_62 : decode cX8_layBook 62 = .ok (.irem, 1) := by decide +kernel
theorem dX8_layBook_63 : decode cX8_layBook 63 = .ok (.istore_n 3, 1) := by decide +kernel
theorem dX8_layBook_64 : decode cX8_layBook 64 = .ok (.iload_n 3, 1) := by decide +kernel
theorem dX8_layBook_65 : decode cX8_layBook 65 = .ok (.bipush 10, 2) := by decide +kernel
theorem dX8_layBook_67 : decode cX8_layBook 67 = .ok (.idiv, 1) := by decide +kernel
theorem dX8_layBook_68 : decode cX8_layBook 68 = .ok (.bipush 10, 2) := by decide +kernel
theorem dX8_layBook_70 : decode cX8_layBook 70 = .ok (.irem, 1) := by decide +kernel
theorem dX8_layBook_71 : decode cX8_layBook 71 = .ok (.istore 6, 2) := by decide +kernel
theorem dX8_layBook_73 : decode cX8_layBook 73 = .ok (.aload_n 0, 1) := by decide +kernel
theorem dX8_layBook_74 : decode cX8_layBook 74 = .ok (.iconst 1, 1) := by decide +kernel
theorem dX8_layBook_75 : decode cX8_layBook 75 = .ok (.iload_n 3, 1) := by decide +kernel
theorem dX8_layBook_76 : decode cX8_layBook 76 = .ok (.iconst 5, 1) := by decide +kernel
theorem dX8_layBook_77 : decode cX8_layBook 77 = .ok (.irem, 1) := by decide +kernel
theorem dX8_layBook_78 : decode cX8_layBook 78 = .ok (.iadd, 1) := by decide +kernel
theorem dX8_layBook_79 : decode cX8_layBook 79 = .ok (.iload 6, 2) := by decide +kernel
theorem dX8_layBook_81 : decode cX8_layBook 81 = .ok (.bipush 6, 2) := by decide +kernel
theorem dX8_layBook_83 : decode cX8_layBook 83 = .ok (.if_icmp .ge 7, 3) := by decide +kernel
theorem dX8_layBook_86 : decode cX8_layBook 86 = .ok (.iconst 0, 1) := by decide +kernel
theorem dX8_layBook_87 : decode cX8_layBook 87 = .ok (.goto 5, 3) := by decide +kernel
theorem dX8_layBook_90 : decode cX8_layBook 90 = .ok (.iload 6, 2) := by decide +kernel
theorem dX8_layBook_92 : decode cX8_layBook 92 = .ok (.iload_n 3, 1) := by decide +kernel
theorem dX8_layBook_93 : decode cX8_layBook 93 = .ok (.bipush 100, 2) := by decide +kernel
theorem dX8_layBook_95 : decode cX8_layBook 95 = .ok (.idiv, 1) := by decide +kernel
theorem dX8_layBook_96 : decode cX8_layBook 96 = .ok (.bipush 8, 2) := by decide +kernel
theorem dX8_layBook_98 : decode cX8_layBook 98 = .ok (.irem, 1) := by decide +kernel
theorem dX8_layBook_99 : decode cX8_layBook 99 = .ok (.ifCond .ne 8, 3) := by decide +kernel
theorem dX8_layBook_102 : decode cX8_layBook 102 = .ok (.bipush (-5), 2) := by decide +kernel
theorem dX8_layBook_104 : decode cX8_layBook 104 = .ok (.goto 4, 3) := by decide +kernel
theorem dX8_layBook_107 : decode cX8_layBook 107 = .ok (.iconst 1, 1) := by decide +kernel
theorem dX8_layBook_108 : decode cX8_layBook 108 = .ok (.invokevirtual 57, 3) := by decide +kernel
theorem dX8_layBook_111 : decode cX8_layBook 111 = .ok (.iload 4, 2) := by decide +kernel
theorem dX8_layBook_113 : decode cX8_layBook 113 = .ok (.iconst 1, 1) := by decide +kernel
theorem dX8_layBook_114 : decode cX8_layBook 114 = .ok (.iload_n 3, 1) := by decide +kernel
theorem dX8_layBook_115 : decode cX8_layBook 115 = .ok (.iconst 5, 1) := by decide +kernel
theorem dX8_layBook_116 : decode cX8_layBook 116 = .ok (.irem, 1) := by decide +kernel
theorem dX8_layBook_117 : decode cX8_layBook 117 = .ok (.iadd, 1) := by decide +kernel
theorem dX8_layBook_118 : decode cX8_layBook 118 = .ok (.iadd, 1) := by decide +kernel
theorem dX8_layBook_119 : decode cX8_layBook 119 = .ok (.istore 4, 2) := by decide +kernel
theorem dX8_layBook_121 : decode cX8_layBook 121 = .ok (.iinc 5 1, 3) := by decide +kernel
theorem dX8_layBook_124 : decode cX8_layBook 124 = .ok (.goto (-80), 3) := by decide +kernel
theorem dX8_layBook_127 : decode cX8_layBook 127 = .ok (.iload 4, 2) := by decide +kernel
theorem dX8_layBook_129 : decode cX8_layBook 129 = .ok (.ireturn, 1) := by decide +kernel
set_option maxRecDepth 20000 in
theorem ggX8_isPage_X8_in : GoodIn wsX8_isPage wsX8_in := goodIn_r _ [5] (by decide +kernel) (by decide +kernel)
set_option maxRecDepth 20000 in
theorem gX8_isPage_X8_in : GoodIn wsX8_isPage (va_wsS RX8 61 yX8_in wsX8_in) := goodIn_app (goodIn_of _ (by decide +kernel)) ggX8_isPage_X8_in
theorem dX8_isPage_0 : decode cX8_isPage 0 = .ok (.iload_n 1, 1) := by decide +kernel
theorem dX8_isPage_1 : decode cX8_isPage 1 = .ok (.iconst 0, 1) := by decide +kernel
theorem dX8_isPage_2 : decode cX8_isPage 2 = .ok (.iconst 2, 1) := by decide +kernel
theorem dX8_isPage_3 : decode cX8_isPage 3 = .ok (.aload_n 0, 1) := by decide +kernel
theorem dX8_isPage_4 : decode cX8_isPage 4 = .ok (.getfield 7, 3) := by decide +kernel
theorem dX8_isPage_7 : decode cX8_isPage 7 = .ok (.iconst 0, 1) := by decide +kernel
theorem dX8_isPage_8 : decode cX8_isPage 8 = .ok (.iaload, 1) := by decide +kernel
theorem dX8_isPage_9 : decode cX8_isPage 9 = .ok (.imul, 1) := by decide +kernel
theorem dX8_isPage_10 : decode cX8_isPage 10 = .ok (.iconst 1, 1) := by decide +kernel
theorem dX8_isPage_11 : decode cX8_isPage 11 = .ok (.isub, 1) := by decide +kernel
theorem dX8_isPage_12 : decode cX8_isPage 12 = .ok (.invokestatic 61, 3) := by decide +kernel
theorem dX8_isPage_15 : decode cX8_isPage 15 = .ok (.ireturn, 1) := by decide +kernel
set_option maxRecDepth 20000 in
theorem ggX8_print_X8_isPage : GoodIn wsX8_print wsX8_isPage := goodIn_r _ [6, 1, 7, 8, 5, 9, 19, 20, 21, 22, 23, 24, 25, 26, 27, 28, 29, 30, 31] (by decide +kernel) (by decide +kernel)
set_option maxRecDepth 20000 in
theorem gX8_print_X8_isPage : GoodIn wsX8_print (wsV RX8 65 RX8 yX8_isPage wsX8_isPage) := goodIn_app (goodIn_of _ (by decide +kernel)) ggX8_print_X8_isPage
set_option maxRecDepth 20000 in
theorem ggX8_print_X8_in : GoodIn wsX8_print wsX8_in := goodIn_r _ [9] (by decide +kernel) (by decide +kernel)
set_option maxRecDepth 20000 in
theorem gX8_print_X8_in : GoodIn wsX8_print (va_wsS RX8 61 yX8_in wsX8_in) := goodIn_app (goodIn_of _ (by decide +kernel)) ggX8_print_X8_in
set_option maxRecDepth 20000 in
theorem ggX8_print_X8_records : GoodIn wsX8_print wsX8_records := goodIn_r _ [13, 14, 15, 16, 17, 5, 18, 19, 20, 21, 22, 23, 24, 25, 26, 27, 28, 29, 30, 31] (by decide +kernel) (by decide +kernel)
set_option maxRecDepth 20000 in
theorem gX8_print_X8_records : GoodIn wsX8_print (wsV RX8 47 RX8 yX8_records wsX8_records) := goodIn_app (goodIn_of _ (by decide +kernel)) ggX8_print_X8_records
theorem dX8_print_0 : decode cX8_print 0 = .ok (.aload_n 0, 1) := by decide +kernel
theorem dX8_print_1 : decode cX8_print 1 = .ok (.iload_n 1, 1) := by decide +kernel
theorem dX8_print_2 : decode cX8_print 2 = .ok (.invokevirtual 65, 3) := by decide +kernel
theorem dX8_print_5 : decode cX8_print 5 = .ok (.ifCond .ne 5, 3) := by decide +kernel
theorem dX8_print_8 : decode cX8_print 8 = .ok (.iconst (-1), 1) := by decide +kernel
theorem dX8_print_9 : decode cX8_print 9 = .ok (.ireturn, 1) := by decide +kernel
theorem dX8_print_10 : decode cX8_print 10 = .ok (.iload_n 2, 1) := by decide +kernel
theorem dX8_print_11 : decode cX8_print 11 = .ok (.bipush (-5), 2) := by decide +kernel
theorem dX8_print_13 : decode cX8_print 13 = .ok (.if_icmp .eq 17, 3) := by decide +kernel
theorem dX8_print_16 : decode cX8_print 16 = .ok (.iload_n 2, 1) := by decide +kernel
theorem dX8_print_17 : decode cX8_print 17 = .ok (.iconst 0, 1) := by decide +kernel
theorem dX8_print_18 : decode cX8_print 18 = .ok (.sipush 199, 3) := by decide +kernel
theorem dX8_print_21 : decode cX8_print 21 = .ok (.invokestatic 61, 3) := by decide +kernel
theorem dX8_print_24 : decode cX8_print 24 = .ok (.ifCond .ne 6, 3) := by decide +kernel
theorem dX8_print_27 : decode cX8_print 27 = .ok (.bipush (-2), 2) := by decide +kernel
theorem dX8_print_29 : decode cX8_print 29 = .ok (.ireturn, 1) := by decide +kernel
theorem dX8_print_30 : decode cX8_print 30 = .ok (.aload_n 0, 1) := by decide +kernel
theorem dX8_print_31 : decode cX8_print 31 = .ok (.getfield 7, 3) := by decide +kernel
theorem dX8_print_34 : decode cX8_print 34 = .ok (.bipush 72, 2) := by decide +kernel
theorem dX8_print_36 : decode cX8_print 36 = .ok (.iload_n 1, 1) := by decide +kernel
theorem dX8_print_37 : decode cX8_print 37 = .ok (.iadd, 1) := by decide +kernel
theorem dX8_print_38 : decode cX8_print 38 = .ok (.iaload, 1) := by decide +kernel
theorem dX8_print_39 : decode cX8_print 39 = .ok (.istore_n 3, 1) := by decide +kernel
theorem dX8_print_40 : decode cX8_print 40 = .ok (.iload_n 3, 1) := by decide +kernel
theorem dX8_print_41 : decode cX8_print 41 = .ok (.iload_n 2, 1) := by decide +kernel
theorem dX8_print_42 : decode cX8_print 42 = .ok (.if_icmp .ne 6, 3) := by decide +kernel
theorem dX8_print_45 : decode cX8_print 45 = .ok (.bipush (-5), 2) := by decide +kernel
theorem dX8_print_47 : decode cX8_print 47 = .ok (.ireturn, 1) := by decide +kernel
theorem dX8_print_48 : decode cX8_print 48 = .ok (.aload_n 0, 1) := by decide +kernel
theorem dX8_print_49 : decode cX8_print 49 = .ok (.aload_n 0, 1) := by decide +kernel
theorem dX8_print_50 : decode cX8_print 50 = .ok (.getfield 7, 3) := by decide +kernel
theorem dX8_print_53 : decode cX8_print 53 = .ok (.invokevirtual 47, 3) := by decide +kernel
theorem dX8_print_56 : decode cX8_print 56 = .ok (.aload_n 0, 1) := by decide +kernel
theorem dX8_print_57 : decode cX8_print 57 = .ok (.getfield 7, 3) := by decide +kernel
theorem dX8_print_60 : decode cX8_print 60 = .ok (.bipush 72, 2) := by decide +kernel
theorem dX8_print_62 : decode cX8_print 62 = .ok (.iload_n 1, 1) := by decide +kernel
theorem dX8_print_63 : decode cX8_print 63 = .ok (.iadd, 1) := by decide +kernel
theorem dX8_print_64 : decode cX8_print 64 = .ok (.iload_n 2, 1) := by decide +kernel
theorem dX8_print_65 : decode cX8_print 65 = .ok (.iastore, 1) := by decide +kernel
theorem dX8_print_66 : decode cX8_print 66 = .ok (.iload_n 3, 1) := by decide +kernel
theorem dX8_print_67 : decode cX8_print 67 = .ok (.bipush (-5), 2) := by decide +kernel
theorem dX8_print_69 : decode cX8_print 69 = .ok (.if_icmp .ne 9, 3) := by decide +kernel
theorem dX8_print_72 : decode cX8_print 72 = .ok (.sipush 200, 3) := by decide +kernel
theorem dX8_print_75 : decode cX8_print 75 = .ok (.goto 4, 3) := by decide +kernel
theorem dX8_print_78 : decode cX8_print 78 = .ok (.iload_n 3, 1) := by decide +kernel
theorem dX8_print_79 : decode cX8_print 79 = .ok (.ireturn, 1) := by decide +kernel
theorem dX8_wouldTurn_0 : decode cX8_wouldTurn 0 = .ok (.aload_n 0, 1) := by decide +kernel
theorem dX8_wouldTurn_1 : decode cX8_wouldTurn 1 = .ok (.iconst 1, 1) := by decide +kernel
theorem dX8_wouldTurn_2 : decode cX8_wouldTurn 2 = .ok (.iaload, 1) := by decide +kernel
theorem dX8_wouldTurn_3 : decode cX8_wouldTurn 3 = .ok (.istore_n 2, 1) := by decide +kernel
theorem dX8_wouldTurn_4 : decode cX8_wouldTurn 4 = .ok (.aload_n 0, 1) := by decide +kernel
theorem dX8_wouldTurn_5 : decode cX8_wouldTurn 5 = .ok (.bipush 12, 2) := by decide +kernel
theorem dX8_wouldTurn_7 : decode cX8_wouldTurn 7 = .ok (.iload_n 2, 1) := by decide +kernel
theorem dX8_wouldTurn_8 : decode cX8_wouldTurn 8 = .ok (.iadd, 1) := by decide +kernel
theorem dX8_wouldTurn_9 : decode cX8_wouldTurn 9 = .ok (.iaload, 1) := by decide +kernel
theorem dX8_wouldTurn_10 : decode cX8_wouldTurn 10 = .ok (.istore_n 3, 1) := by decide +kernel
theorem dX8_wouldTurn_11 : decode cX8_wouldTurn 11 = .ok (.iload_n 1, 1) := by decide +kernel
theorem dX8_wouldTurn_12 : decode cX8_wouldTurn 12 = .ok (.iload_n 3, 1) := by decide +kernel
theorem dX8_wouldTurn_13 : decode cX8_wouldTurn 13 = .ok (.if_icmp .ge 5, 3) := by decide +kernel
theorem dX8_wouldTurn_16 : decode cX8_wouldTurn 16 = .ok (.iconst 0, 1) := by decide +kernel
theorem dX8_wouldTurn_17 : decode cX8_wouldTurn 17 = .ok (.ireturn, 1) := by decide +kernel
theorem dX8_wouldTurn_18 : decode cX8_wouldTurn 18 = .ok (.iconst 1, 1) := by decide +kernel
theorem dX8_wouldTurn_19 : decode cX8_wouldTurn 19 = .ok (.istore 4, 2) := by decide +kernel
theorem dX8_wouldTurn_21 : decode cX8_wouldTurn 21 = .ok (.iload_n 2, 1) := by decide +kernel
theorem dX8_wouldTurn_22 : decode cX8_wouldTurn 22 = .ok (.iload 4, 2) := by decide +kernel
theorem dX8_wouldTurn_24 : decode cX8_wouldTurn 24 = .ok (.iadd, 1) := by decide +kernel
theorem dX8_wouldTurn_25 : decode cX8_wouldTurn 25 = .ok (.aload_n 0, 1) := by decide +kernel
theorem dX8_wouldTurn_26 : decode cX8_wouldTurn 26 = .ok (.iconst 0, 1) := by decide +kernel
theorem dX8_wouldTurn_27 : decode cX8_wouldTurn 27 = .ok (.iaload, 1) := by decide +kernel
theorem dX8_wouldTurn_28 : decode cX8_wouldTurn 28 = .ok (.if_icmp .ge 53, 3) := by decide +kernel
theorem dX8_wouldTurn_31 : decode cX8_wouldTurn 31 = .ok (.iload_n 1, 1) := by decide +kernel
theorem dX8_wouldTurn_32 : decode cX8_wouldTurn 32 = .ok (.iload_n 3, 1) := by decide +kernel
theorem dX8_wouldTurn_33 : decode cX8_wouldTurn 33 = .ok (.aload_n 0, 1) := by decide +kernel
theorem dX8_wouldTurn_34 : decode cX8_wouldTurn 34 = .ok (.bipush 12, 2) := by decide +kernel
theorem dX8_wouldTurn_36 : decode cX8_wouldTurn 36 = .ok (.iload_n 2, 1) := by decide +kernel
theorem dX8_wouldTurn_37 : decode cX8_wouldTurn 37 = .ok (.iadd, 1) := by decide +kernel
theorem dX8_wouldTurn_38 : decode cX8_wouldTurn 38 = .ok (.iload 4, 2) := by decide +kernel
theorem dX8_wouldTurn_40 : decode cX8_wouldTurn 40 = .ok (.iadd, 1) := by decide +kernel
theorem dX8_wouldTurn_41 : decode cX8_wouldTurn 41 = .ok (.iaload, 1) := by decide +kernel
theorem dX8_wouldTurn_42 : decode cX8_wouldTurn 42 = .ok (.iadd, 1) := by decide +kernel
theorem dX8_wouldTurn_43 : decode cX8_wouldTurn 43 = .ok (.if_icmp .lt 38, 3) := by decide +kernel
theorem dX8_wouldTurn_46 : decode cX8_wouldTurn 46 = .ok (.iload_n 1, 1) := by decide +kernel
theorem dX8_wouldTurn_47 : decode cX8_wouldTurn 47 = .ok (.iload_n 3, 1) := by decide +kernel
theorem dX8_wouldTurn_48 : decode cX8_wouldTurn 48 = .ok (.isub, 1) := by decide +kernel
theorem dX8_wouldTurn_49 : decode cX8_wouldTurn 49 = .ok (.aload_n 0, 1) := by decide +kernel
theorem dX8_wouldTurn_50 : decode cX8_wouldTurn 50 = .ok (.bipush 42, 2) := by decide +kernel
theorem dX8_wouldTurn_52 : decode cX8_wouldTurn 52 = .ok (.iload_n 2, 1) := by decide +kernel
theorem dX8_wouldTurn_53 : decode cX8_wouldTurn 53 = .ok (.iadd, 1) := by decide +kernel
theorem dX8_wouldTurn_54 : decode cX8_wouldTurn 54 = .ok (.iload 4, 2) := by decide +kernel
theorem dX8_wouldTurn_56 : decode cX8_wouldTurn 56 = .ok (.iadd, 1) := by decide +kernel
theorem dX8_wouldTurn_57 : decode cX8_wouldTurn 57 = .ok (.iconst 1, 1) := by decide +kernel
theorem dX8_wouldTurn_58 : decode cX8_wouldTurn 58 = .ok (.isub, 1) := by decide +kernel
theorem dX8_wouldTurn_59 : decode cX8_wouldTurn 59 = .ok (.iaload, 1) := by decide +kernel
theorem dX8_wouldTurn_60 : decode cX8_wouldTurn 60 = .ok (.if_icmp .ge 21, 3) := by decide +kernel
theorem dX8_wouldTurn_63 : decode cX8_wouldTurn 63 = .ok (.iload_n 3, 1) := by decide +kernel
theorem dX8_wouldTurn_64 : decode cX8_wouldTurn 64 = .ok (.aload_n 0, 1) := by decide +kernel
theorem dX8_wouldTurn_65 : decode cX8_wouldTurn 65 = .ok (.bipush 12, 2) := by decide +kernel
theorem dX8_wouldTurn_67 : decode cX8_wouldTurn 67 = .ok (.iload_n 2, 1) := by decide +kernel
theorem dX8_wouldTurn_68 : decode cX8_wouldTurn 68 = .ok (.iadd, 1) := by decide +kernel
theorem dX8_wouldTurn_69 : decode cX8_wouldTurn 69 = .ok (.iload 4, 2) := by decide +kernel
theorem dX8_wouldTurn_71 : decode cX8_wouldTurn 71 = .ok (.iadd, 1) := by decide +kernel
theorem dX8_wouldTurn_72 : decode cX8_wouldTurn 72 = .ok (.iaload, 1) := by decide +kernel
theorem dX8_wouldTurn_73 : decode cX8_wouldTurn 73 = .ok (.iadd, 1) := by decide +kernel
theorem dX8_wouldTurn_74 : decode cX8_wouldTurn 74 = .ok (.istore_n 3, 1) := by decide +kernel
theorem dX8_wouldTurn_75 : decode cX8_wouldTurn 75 = .ok (.iinc 4 1, 3) := by decide +kernel
theorem dX8_wouldTurn_78 : decode cX8_wouldTurn 78 = .ok (.goto (-57), 3) := by decide +kernel
theorem dX8_wouldTurn_81 : decode cX8_wouldTurn 81 = .ok (.iload 4, 2) := by decide +kernel
theorem dX8_wouldTurn_83 : decode cX8_wouldTurn 83 = .ok (.ireturn, 1) := by decide +kernel
theorem dX8_learns_0 : decode cX8_learns 0 = .ok (.aload_n 0, 1) := by decide +kernel
theorem dX8_learns_1 : decode cX8_learns 1 = .ok (.bipush 7, 2) := by decide +kernel
theorem dX8_learns_3 : decode cX8_learns 3 = .ok (.iload_n 1, 1) := by decide +kernel
theorem dX8_learns_4 : decode cX8_learns 4 = .ok (.iconst 1, 1) := by decide +kernel
theorem dX8_learns_5 : decode cX8_learns 5 = .ok (.if_icmp .ne 12, 3) := by decide +kernel
theorem dX8_learns_8 : decode cX8_learns 8 = .ok (.aload_n 0, 1) := by decide +kernel
theorem dX8_learns_9 : decode cX8_learns 9 = .ok (.bipush 7, 2) := by decide +kernel
theorem dX8_learns_11 : decode cX8_learns 11 = .ok (.iaload, 1) := by decide +kernel
theorem dX8_learns_12 : decode cX8_learns 12 = .ok (.iconst 1, 1) := by decide +kernel
theorem dX8_learns_13 : decode cX8_learns 13 = .ok (.iadd, 1) := by decide +kernel
theorem dX8_learns_14 : decode cX8_learns 14 = .ok (.goto 4, 3) := by decide +kernel
theorem dX8_learns_17 : decode cX8_learns 17 = .ok (.iconst 0, 1) := by decide +kernel
theorem dX8_learns_18 : decode cX8_learns 18 = .ok (.iastore, 1) := by decide +kernel
theorem dX8_learns_19 : decode cX8_learns 19 = .ok (.iload_n 1, 1) := by decide +kernel
theorem dX8_learns_20 : decode cX8_learns 20 = .ok (.ifCond .ne 7, 3) := by decide +kernel
theorem dX8_learns_23 : decode cX8_learns 23 = .ok (.iconst 2, 1) := by decide +kernel
theorem dX8_learns_24 : decode cX8_learns 24 = .ok (.goto 25, 3) := by decide +kernel
theorem dX8_learns_27 : decode cX8_learns 27 = .ok (.iload_n 1, 1) := by decide +kernel
theorem dX8_learns_28 : decode cX8_learns 28 = .ok (.iconst 1, 1) := by decide +kernel
theorem dX8_learns_29 : decode cX8_learns 29 = .ok (.if_icmp .le 7, 3) := by decide +kernel
theorem dX8_learns_32 : decode cX8_learns 32 = .ok (.iconst 1, 1) := by decide +kernel
theorem dX8_learns_33 : decode cX8_learns 33 = .ok (.goto 16, 3) := by decide +kernel
theorem dX8_learns_36 : decode cX8_learns 36 = .ok (.aload_n 0, 1) := by decide +kernel
theorem dX8_learns_37 : decode cX8_learns 37 = .ok (.bipush 7, 2) := by decide +kernel
theorem dX8_learns_39 : decode cX8_learns 39 = .ok (.iaload, 1) := by decide +kernel
theorem dX8_learns_40 : decode cX8_learns 40 = .ok (.iconst 5, 1) := by decide +kernel
theorem dX8_learns_41 : decode cX8_learns 41 = .ok (.if_icmp .ne 7, 3) := by decide +kernel
theorem dX8_learns_44 : decode cX8_learns 44 = .ok (.iconst (-1), 1) := by decide +kernel
theorem dX8_learns_45 : decode cX8_learns 45 = .ok (.goto 4, 3) := by decide +kernel
theorem dX8_learns_48 : decode cX8_learns 48 = .ok (.iconst 0, 1) := by decide +kernel
theorem dX8_learns_49 : decode cX8_learns 49 = .ok (.istore_n 2, 1) := by decide +kernel
theorem dX8_learns_50 : decode cX8_learns 50 = .ok (.aload_n 0, 1) := by decide +kernel
theorem dX8_learns_51 : decode cX8_learns 51 = .ok (.bipush 7, 2) := by decide +kernel
theorem dX8_learns_53 : decode cX8_learns 53 = .ok (.dup2, 1) := by decide +kernel
theorem dX8_learns_54 : decode cX8_learns 54 = .ok (.iaload, 1) := by decide +kernel
theorem dX8_learns_55 : decode cX8_learns 55 = .ok (.iconst 5, 1) := by decide +kernel
theorem dX8_learns_56 : decode cX8_learns 56 = .ok (.irem, 1) := by decide +kernel
theorem dX8_learns_57 : decode cX8_learns 57 = .ok (.iastore, 1) := by decide +kernel
theorem dX8_learns_58 : decode cX8_learns 58 = .ok (.aload_n 0, 1) := by decide +kernel
theorem dX8_learns_59 : decode cX8_learns 59 = .ok (.bipush 10, 2) := by decide +kernel
theorem dX8_learns_61 : decode cX8_learns 61 = .ok (.iaload, 1) := by decide +kernel
theorem dX8_learns_62 : decode cX8_learns 62 = .ok (.iconst 1, 1) := by decide +kernel
theorem dX8_learns_63 : decode cX8_learns 63 = .ok (.if_icmp .ne 35, 3) := by decide +kernel
theorem dX8_learns_66 : decode cX8_learns 66 = .ok (.aload_n 0, 1) := by decide +kernel
theorem dX8_learns_67 : decode cX8_learns 67 = .ok (.bipush 8, 2) := by decide +kernel
theorem dX8_learns_69 : decode cX8_learns 69 = .ok (.iaload, 1) := by decide +kernel
theorem dX8_learns_70 : decode cX8_learns 70 = .ok (.iload_n 2, 1) := by decide +kernel
theorem dX8_learns_71 : decode cX8_learns 71 = .ok (.iadd, 1) := by decide +kernel
theorem dX8_learns_72 : decode cX8_learns 72 = .ok (.istore_n 3, 1) := by decide +kernel
theorem dX8_learns_73 : decode cX8_learns 73 = .ok (.aload_n 0, 1) := by decide +kernel
theorem dX8_learns_74 : decode cX8_learns 74 = .ok (.bipush 8, 2) := by decide +kernel
theorem dX8_learns_76 : decode cX8_learns 76 = .ok (.iload_n 3, 1) := by decide +kernel
theorem dX8_learns_77 : decode cX8_learns 77 = .ok (.iconst 1, 1) := by decide +kernel
theorem dX8_learns_78 : decode cX8_learns 78 = .ok (.if_icmp .ge 7, 3) := by decide +kernel
theorem dX8_learns_81 : decode cX8_learns 81 = .ok (.iconst 1, 1) := by decide +kernel
theorem dX8_learns_82 : decode cX8_learns 82 = .ok (.goto 15, 3) := by decide +kernel
theorem dX8_learns_85 : decode cX8_learns 85 = .ok (.iload_n 3, 1) := by decide +kernel
theorem dX8_learns_86 : decode cX8_learns 86 = .ok (.bipush 20, 2) := by decide +kernel
theorem dX8_learns_88 : decode cX8_learns 88 = .ok (.if_icmp .le 8, 3) := by decide +kernel
theorem dX8_learns_91 : decode cX8_learns 91 = .ok (.bipush 20, 2) := by decide +kernel
theorem dX8_learns_93 : decode cX8_learns 93 = .ok (.goto 4, 3) := by decide +kernel
theorem dX8_learns_96 : decode cX8_learns 96 = .ok (.iload_n 3, 1) := by decide +kernel
theorem dX8_learns_97 : decode cX8_learns 97 = .ok (.iastore, 1) := by decide +kernel
theorem dX8_learns_98 : decode cX8_learns 98 = .ok (.return_, 1) := by decide +kernel
set_option maxRecDepth 20000 in
theorem ggX8_turns_X8_wouldTurn : GoodIn wsX8_turns wsX8_wouldTurn := goodIn_r _ [4] (by decide +kernel) (by decide +kernel)
set_option maxRecDepth 20000 in
theorem gX8_turns_X8_wouldTurn : GoodIn wsX8_turns (va_wsS RX8 69 yX8_wouldTurn wsX8_wouldTurn) := goodIn_app (goodIn_of _ (by decide +kernel)) ggX8_turns_X8_wouldTurn
set_option maxRecDepth 20000 in
theorem ggX8_turns_X8_learns : GoodIn wsX8_turns wsX8_learns := goodIn_r _ [7] (by decide +kernel) (by decide +kernel)
set_option maxRecDepth 20000 in
theorem gX8_turns_X8_learns : GoodIn wsX8_turns (va_wsS RX8 73 yX8_learns wsX8_learns) := goodIn_app (goodIn_of _ (by decide +kernel)) ggX8_turns_X8_learns
theorem dX8_turns_0 : decode cX8_turns 0 = .ok (.aload_n 0, 1) := by decide +kernel
theorem dX8_turns_1 : decode cX8_turns 1 = .ok (.aload_n 0, 1) := by decide +kernel
theorem dX8_turns_2 : decode cX8_turns 2 = .ok (.bipush 8, 2) := by decide +kernel
theorem dX8_turns_4 : decode cX8_turns 4 = .ok (.iaload, 1) := by decide +kernel
theorem dX8_turns_5 : decode cX8_turns 5 = .ok (.invokestatic 69, 3) := by decide +kernel
theorem dX8_turns_8 : decode cX8_turns 8 = .ok (.istore_n 1, 1) := by decide +kernel
theorem dX8_turns_9 : decode cX8_turns 9 = .ok (.aload_n 0, 1) := by decide +kernel
theorem dX8_turns_10 : decode cX8_turns 10 = .ok (.iconst 1, 1) := by decide +kernel
theorem dX8_turns_11 : decode cX8_turns 11 = .ok (.dup2, 1) := by decide +kernel
theorem dX8_turns_12 : decode cX8_turns 12 = .ok (.iaload, 1) := by decide +kernel
theorem dX8_turns_13 : decode cX8_turns 13 = .ok (.iload_n 1, 1) := by decide +kernel
theorem dX8_turns_14 : decode cX8_turns 14 = .ok (.iadd, 1) := by decide +kernel
theorem dX8_turns_15 : decode cX8_turns 15 = .ok (.iastore, 1) := by decide +kernel
theorem dX8_turns_16 : decode cX8_turns 16 = .ok (.aload_n 0, 1) := by decide +kernel
theorem dX8_turns_17 : decode cX8_turns 17 = .ok (.iconst 4, 1) := by decide +kernel
theorem dX8_turns_18 : decode cX8_turns 18 = .ok (.dup2, 1) := by decide +kernel
theorem dX8_turns_19 : decode cX8_turns 19 = .ok (.iaload, 1) := by decide +kernel
theorem dX8_turns_20 : decode cX8_turns 20 = .ok (.iconst 1, 1) := by decide +kernel
theorem dX8_turns_21 : decode cX8_turns 21 = .ok (.iadd, 1) := by decide +kernel
theorem dX8_turns_22 : decode cX8_turns 22 = .ok (.iastore, 1) := by decide +kernel
theorem dX8_turns_23 : decode cX8_turns 23 = .ok (.aload_n 0, 1) := by decide +kernel
theorem dX8_turns_24 : decode cX8_turns 24 = .ok (.iconst 5, 1) := by decide +kernel
theorem dX8_turns_25 : decode cX8_turns 25 = .ok (.dup2, 1) := by decide +kernel
theorem dX8_turns_26 : decode cX8_turns 26 = .ok (.iaload, 1) := by decide +kernel
theorem dX8_turns_27 : decode cX8_turns 27 = .ok (.iload_n 1, 1) := by decide +kernel
theorem dX8_turns_28 : decode cX8_turns 28 = .ok (.iconst 1, 1) := by decide +kernel
theorem dX8_turns_29 : decode cX8_turns 29 = .ok (.if_icmp .le 7, 3) := by decide +kernel
theorem dX8_turns_32 : decode cX8_turns 32 = .ok (.iconst 1, 1) := by decide +kernel
theorem dX8_turns_33 : decode cX8_turns 33 = .ok (.goto 4, 3) := by decide +kernel
theorem dX8_turns_36 : decode cX8_turns 36 = .ok (.iconst 0, 1) := by decide +kernel
theorem dX8_turns_37 : decode cX8_turns 37 = .ok (.iadd, 1) := by decide +kernel
theorem dX8_turns_38 : decode cX8_turns 38 = .ok (.iastore, 1) := by decide +kernel
theorem dX8_turns_39 : decode cX8_turns 39 = .ok (.aload_n 0, 1) := by decide +kernel
theorem dX8_turns_40 : decode cX8_turns 40 = .ok (.bipush 6, 2) := by decide +kernel
theorem dX8_turns_42 : decode cX8_turns 42 = .ok (.dup2, 1) := by decide +kernel
theorem dX8_turns_43 : decode cX8_turns 43 = .ok (.iaload, 1) := by decide +kernel
theorem dX8_turns_44 : decode cX8_turns 44 = .ok (.iload_n 1, 1) := by decide +kernel
theorem dX8_turns_45 : decode cX8_turns 45 = .ok (.ifCond .ne 7, 3) := by decide +kernel
theorem dX8_turns_48 : decode cX8_turns 48 = .ok (.iconst 1, 1) := by decide +kernel
theorem dX8_turns_49 : decode cX8_turns 49 = .ok (.goto 4, 3) := by decide +kernel
theorem dX8_turns_52 : decode cX8_turns 52 = .ok (.iconst 0, 1) := by decide +kernel
theorem dX8_turns_53 : decode cX8_turns 53 = .ok (.iadd, 1) := by decide +kernel
theorem dX8_turns_54 : decode cX8_turns 54 = .ok (.iastore, 1) := by decide +kernel
theorem dX8_turns_55 : decode cX8_turns 55 = .ok (.aload_n 0, 1) := by decide +kernel
theorem dX8_turns_56 : decode cX8_turns 56 = .ok (.iload_n 1, 1) := by decide +kernel
theorem dX8_turns_57 : decode cX8_turns 57 = .ok (.invokestatic 73, 3) := by decide +kernel
theorem dX8_turns_60 : decode cX8_turns 60 = .ok (.iload_n 1, 1) := by decide +kernel
theorem dX8_turns_61 : decode cX8_turns 61 = .ok (.ireturn, 1) := by decide +kernel
theorem dX8_isRight_0 : decode cX8_isRight 0 = .ok (.aload_n 0, 1) := by decide +kernel
theorem dX8_isRight_1 : decode cX8_isRight 1 = .ok (.getfield 7, 3) := by decide +kernel
theorem dX8_isRight_4 : decode cX8_isRight 4 = .ok (.iconst 1, 1) := by decide +kernel
theorem dX8_isRight_5 : decode cX8_isRight 5 = .ok (.iaload, 1) := by decide +kernel
theorem dX8_isRight_6 : decode cX8_isRight 6 = .ok (.aload_n 0, 1) := by decide +kernel
theorem dX8_isRight_7 : decode cX8_isRight 7 = .ok (.getfield 7, 3) := by decide +kernel
theorem dX8_isRight_10 : decode cX8_isRight 10 = .ok (.iconst 0, 1) := by decide +kernel
theorem dX8_isRight_11 : decode cX8_isRight 11 = .ok (.iaload, 1) := by decide +kernel
theorem dX8_isRight_12 : decode cX8_isRight 12 = .ok (.if_icmp .ge 7, 3) := by decide +kernel
theorem dX8_isRight_15 : decode cX8_isRight 15 = .ok (.iconst 1, 1) := by decide +kernel
theorem dX8_isRight_16 : decode cX8_isRight 16 = .ok (.goto 4, 3) := by decide +kernel
theorem dX8_isRight_19 : decode cX8_isRight 19 = .ok (.iconst 0, 1) := by decide +kernel
theorem dX8_isRight_20 : decode cX8_isRight 20 = .ok (.ireturn, 1) := by decide +kernel
set_option maxRecDepth 20000 in
theorem ggX8_turn_X8_isRight : GoodIn wsX8_turn wsX8_isRight := goodIn_r _ [6, 1, 25, 26, 27, 28, 29, 30, 31, 32, 33, 34, 35, 36, 37] (by decide +kernel) (by decide +kernel)
set_option maxRecDepth 20000 in
theorem gX8_turn_X8_isRight : GoodIn wsX8_turn (wsV RX8 77 RX8 yX8_isRight wsX8_isRight) := goodIn_app (goodIn_of _ (by decide +kernel)) ggX8_turn_X8_isRight
set_option maxRecDepth 20000 in
theorem ggX8_turn_X8_records : GoodIn wsX8_turn wsX8_records := goodIn_r _ [10, 11, 12, 13, 14, 5, 15, 25, 26, 27, 28, 29, 30, 31, 32, 33, 34, 35, 36, 37] (by decide +kernel) (by decide +kernel)
set_option maxRecDepth 20000 in
theorem gX8_turn_X8_records : GoodIn wsX8_turn (wsV RX8 47 RX8 yX8_records wsX8_records) := goodIn_app (goodIn_of _ (by decide +kernel)) ggX8_turn_X8_records
set_option maxRecDepth 20000 in
theorem ggX8_turn_X8_turns : GoodIn wsX8_turn wsX8_turns := goodIn_r _ [18, 19, 20, 5, 21, 22, 23, 24] (by decide +kernel) (by decide +kernel)
set_option maxRecDepth 20000 in
theorem gX8_turn_X8_turns : GoodIn wsX8_turn (va_wsS RX8 81 yX8_turns wsX8_turns) := goodIn_app (goodIn_of _ (by decide +kernel)) ggX8_turn_X8_turns
theorem dX8_turn_0 : decode cX8_turn 0 = .ok (.aload_n 0, 1) := by decide +kernel
theorem dX8_turn_1 : decode cX8_turn 1 = .ok (.invokevirtual 77, 3) := by decide +kernel
theorem dX8_turn_4 : decode cX8_turn 4 = .ok (.ifCond .ne 6, 3) := by decide +kernel
theorem dX8_turn_7 : decode cX8_turn 7 = .ok (.bipush (-4), 2) := by decide +kernel
theorem dX8_turn_9 : decode cX8_turn 9 = .ok (.ireturn, 1) := by decide +kernel
theorem dX8_turn_10 : decode cX8_turn 10 = .ok (.aload_n 0, 1) := by decide +kernel
theorem dX8_turn_11 : decode cX8_turn 11 = .ok (.aload_n 0, 1) := by decide +kernel
theorem dX8_turn_12 : decode cX8_turn 12 = .ok (.getfield 7, 3) := by decide +kernel
theorem dX8_turn_15 : decode cX8_turn 15 = .ok (.invokevirtual 47, 3) := by decide +kernel
theorem dX8_turn_18 : decode cX8_turn 18 = .ok (.aload_n 0, 1) := by decide +kernel
theorem dX8_turn_19 : decode cX8_turn 19 = .ok (.getfield 7, 3) := by decide +kernel
theorem dX8_turn_22 : decode cX8_turn 22 = .ok (.invokestatic 81, 3) := by decide +kernel
theorem dX8_turn_25 : decode cX8_turn 25 = .ok (.ireturn, 1) := by decide +kernel
set_option maxRecDepth 20000 in
theorem ggX8_turnBack_X8_records : GoodIn wsX8_turnBack wsX8_records := goodIn_r _ [6, 7, 8, 9, 10, 5, 11, 12, 13, 14, 15, 16, 17, 18, 19, 20, 21, 22, 23, 24] (by decide +kernel) (by decide +kernel)
set_option maxRecDepth 20000 in
theorem gX8_turnBack_X8_records : GoodIn wsX8_turnBack (wsV RX8 47 RX8 yX8_records wsX8_records) := goodIn_app (goodIn_of _ (by decide +kernel)) ggX8_turnBack_X8_records
theorem dX8_turnBack_0 : decode cX8_turnBack 0 = .ok (.aload_n 0, 1) := by decide +kernel
theorem dX8_turnBack_1 : decode cX8_turnBack 1 = .ok (.getfield 7, 3) := by decide +kernel
theorem dX8_turnBack_4 : decode cX8_turnBack 4 = .ok (.iconst 1, 1) := by decide +kernel
theorem dX8_turnBack_5 : decode cX8_turnBack 5 = .ok (.iaload, 1) := by decide +kernel
theorem dX8_turnBack_6 : decode cX8_turnBack 6 = .ok (.ifCond .ne 6, 3) := by decide +kernel
theorem dX8_turnBack_9 : decode cX8_turnBack 9 = .ok (.bipush (-4), 2) := by decide +kernel
theorem dX8_turnBack_11 : decode cX8_turnBack 11 = .ok (.ireturn, 1) := by decide +kernel
theorem dX8_turnBack_12 : decode cX8_turnBack 12 = .ok (.aload_n 0, 1) := by decide +kernel
theorem dX8_turnBack_13 : decode cX8_turnBack 13 = .ok (.aload_n 0, 1) := by decide +kernel
theorem dX8_turnBack_14 : decode cX8_turnBack 14 = .ok (.getfield 7, 3) := by decide +kernel
theorem dX8_turnBack_17 : decode cX8_turnBack 17 = .ok (.invokevirtual 47, 3) := by decide +kernel
theorem dX8_turnBack_20 : decode cX8_turnBack 20 = .ok (.aload_n 0, 1) := by decide +kernel
theorem dX8_turnBack_21 : decode cX8_turnBack 21 = .ok (.getfield 7, 3) := by decide +kernel
theorem dX8_turnBack_24 : decode cX8_turnBack 24 = .ok (.iconst 1, 1) := by decide +kernel
theorem dX8_turnBack_25 : decode cX8_turnBack 25 = .ok (.dup2, 1) := by decide +kernel
theorem dX8_turnBack_26 : decode cX8_turnBack 26 = .ok (.iaload, 1) := by decide +kernel
theorem dX8_turnBack_27 : decode cX8_turnBack 27 = .ok (.iconst 1, 1) := by decide +kernel
theorem dX8_turnBack_28 : decode cX8_turnBack 28 = .ok (.isub, 1) := by decide +kernel
theorem dX8_turnBack_29 : decode cX8_turnBack 29 = .ok (.iastore, 1) := by decide +kernel
theorem dX8_turnBack_30 : decode cX8_turnBack 30 = .ok (.aload_n 0, 1) := by decide +kernel
theorem dX8_turnBack_31 : decode cX8_turnBack 31 = .ok (.getfield 7, 3) := by decide +kernel
theorem dX8_turnBack_34 : decode cX8_turnBack 34 = .ok (.iconst 1, 1) := by decide +kernel
theorem dX8_turnBack_35 : decode cX8_turnBack 35 = .ok (.iaload, 1) := by decide +kernel
theorem dX8_turnBack_36 : decode cX8_turnBack 36 = .ok (.ireturn, 1) := by decide +kernel
theorem dX8_isGood_0 : decode cX8_isGood 0 = .ok (.iload_n 1, 1) := by decide +kernel
theorem dX8_isGood_1 : decode cX8_isGood 1 = .ok (.aload_n 0, 1) := by decide +kernel
theorem dX8_isGood_2 : decode cX8_isGood 2 = .ok (.bipush 9, 2) := by decide +kernel
theorem dX8_isGood_4 : decode cX8_isGood 4 = .ok (.iaload, 1) := by decide +kernel
theorem dX8_isGood_5 : decode cX8_isGood 5 = .ok (.if_icmp .ge 15, 3) := by decide +kernel
theorem dX8_isGood_8 : decode cX8_isGood 8 = .ok (.aload_n 0, 1) := by decide +kernel
theorem dX8_isGood_9 : decode cX8_isGood 9 = .ok (.iconst 0, 1) := by decide +kernel
theorem dX8_isGood_10 : decode cX8_isGood 10 = .ok (.iaload, 1) := by decide +kernel
theorem dX8_isGood_11 : decode cX8_isGood 11 = .ok (.iconst 2, 1) := by decide +kernel
theorem dX8_isGood_12 : decode cX8_isGood 12 = .ok (.aload_n 0, 1) := by decide +kernel
theorem dX8_isGood_13 : decode cX8_isGood 13 = .ok (.bipush 9, 2) := by decide +kernel
theorem dX8_isGood_15 : decode cX8_isGood 15 = .ok (.iaload, 1) := by decide +kernel
theorem dX8_isGood_16 : decode cX8_isGood 16 = .ok (.imul, 1) := by decide +kernel
theorem dX8_isGood_17 : decode cX8_isGood 17 = .ok (.if_icmp .ge 7, 3) := by decide +kernel
theorem dX8_isGood_20 : decode cX8_isGood 20 = .ok (.iconst 1, 1) := by decide +kernel
theorem dX8_isGood_21 : decode cX8_isGood 21 = .ok (.goto 4, 3) := by decide +kernel
theorem dX8_isGood_24 : decode cX8_isGood 24 = .ok (.iconst 0, 1) := by decide +kernel
theorem dX8_isGood_25 : decode cX8_isGood 25 = .ok (.ireturn, 1) := by decide +kernel
theorem dX8_openOn_0 : decode cX8_openOn 0 = .ok (.iload_n 1, 1) := by decide +kernel
theorem dX8_openOn_1 : decode cX8_openOn 1 = .ok (.ifCond .ne 24, 3) := by decide +kernel
theorem dX8_openOn_4 : decode cX8_openOn 4 = .ok (.aload_n 0, 1) := by decide +kernel
theorem dX8_openOn_5 : decode cX8_openOn 5 = .ok (.iconst 1, 1) := by decide +kernel
theorem dX8_openOn_6 : decode cX8_openOn 6 = .ok (.iaload, 1) := by decide +kernel
theorem dX8_openOn_7 : decode cX8_openOn 7 = .ok (.ifCond .ne 8, 3) := by decide +kernel
theorem dX8_openOn_10 : decode cX8_openOn 10 = .ok (.bipush (-5), 2) := by decide +kernel
theorem dX8_openOn_12 : decode cX8_openOn 12 = .ok (.goto 32, 3) := by decide +kernel
theorem dX8_openOn_15 : decode cX8_openOn 15 = .ok (.iconst 2, 1) := by decide +kernel
theorem dX8_openOn_16 : decode cX8_openOn 16 = .ok (.aload_n 0, 1) := by decide +kernel
theorem dX8_openOn_17 : decode cX8_openOn 17 = .ok (.iconst 1, 1) := by decide +kernel
theorem dX8_openOn_18 : decode cX8_openOn 18 = .ok (.iaload, 1) := by decide +kernel
theorem dX8_openOn_19 : decode cX8_openOn 19 = .ok (.imul, 1) := by decide +kernel
theorem dX8_openOn_20 : decode cX8_openOn 20 = .ok (.iconst 1, 1) := by decide +kernel
theorem dX8_openOn_21 : decode cX8_openOn 21 = .ok (.isub, 1) := by decide +kernel
theorem dX8_openOn_22 : decode cX8_openOn 22 = .ok (.goto 22, 3) := by decide +kernel
theorem dX8_openOn_25 : decode cX8_openOn 25 = .ok (.aload_n 0, 1) := by decide +kernel
theorem dX8_openOn_26 : decode cX8_openOn 26 = .ok (.iconst 1, 1) := by decide +kernel
theorem dX8_openOn_27 : decode cX8_openOn 27 = .ok (.iaload, 1) := by decide +kernel
theorem dX8_openOn_28 : decode cX8_openOn 28 = .ok (.aload_n 0, 1) := by decide +kernel
theorem dX8_openOn_29 : decode cX8_openOn 29 = .ok (.iconst 0, 1) := by decide +kernel
theorem dX8_openOn_30 : decode cX8_openOn 30 = .ok (.iaload, 1) := by decide +kernel
theorem dX8_openOn_31 : decode cX8_openOn 31 = .ok (.if_icmp .ne 8, 3) := by decide +kernel
theorem dX8_openOn_34 : decode cX8_openOn 34 = .ok (.bipush (-5), 2) := by decide +kernel
theorem dX8_openOn_36 : decode cX8_openOn 36 = .ok (.goto 8, 3) := by decide +kernel
theorem dX8_openOn_39 : decode cX8_openOn 39 = .ok (.iconst 2, 1) := by decide +kernel
theorem dX8_openOn_40 : decode cX8_openOn 40 = .ok (.aload_n 0, 1) := by decide +kernel
theorem dX8_openOn_41 : decode cX8_openOn 41 = .ok (.iconst 1, 1) := by decide +kernel
theorem dX8_openOn_42 : decode cX8_openOn 42 = .ok (.iaload, 1) := by decide +kernel
theorem dX8_openOn_43 : decode cX8_openOn 43 = .ok (.imul, 1) := by decide +kernel
theorem dX8_openOn_44 : decode cX8_openOn 44 = .ok (.ireturn, 1) := by decide +kernel
set_option maxRecDepth 20000 in
theorem ggX8_shots_X8_openOn : GoodIn wsX8_shots wsX8_openOn := goodIn_r _ [4] (by decide +kernel) (by decide +kernel)
set_option maxRecDepth 20000 in
theorem gX8_shots_X8_openOn : GoodIn wsX8_shots (va_wsS RX8 85 yX8_openOn wsX8_openOn) := goodIn_app (goodIn_of _ (by decide +kernel)) ggX8_shots_X8_openOn
set_option maxRecDepth 20000 in
theorem ggX8_shots_X8_takes : GoodIn wsX8_shots wsX8_takes := goodIn_r _ [7, 8, 9, 3, 10] (by decide +kernel) (by decide +kernel)
set_option maxRecDepth 20000 in
theorem gX8_shots_X8_takes : GoodIn wsX8_shots (va_wsS RX8 88 yX8_takes wsX8_takes) := goodIn_app (goodIn_of _ (by decide +kernel)) ggX8_shots_X8_takes
theorem dX8_shots_0 : decode cX8_shots 0 = .ok (.iconst 0, 1) := by decide +kernel
theorem dX8_shots_1 : decode cX8_shots 1 = .ok (.istore_n 1, 1) := by decide +kernel
theorem dX8_shots_2 : decode cX8_shots 2 = .ok (.iconst 0, 1) := by decide +kernel
theorem dX8_shots_3 : decode cX8_shots 3 = .ok (.istore_n 2, 1) := by decide +kernel
theorem dX8_shots_4 : decode cX8_shots 4 = .ok (.iload_n 2, 1) := by decide +kernel
theorem dX8_shots_5 : decode cX8_shots 5 = .ok (.iconst 2, 1) := by decide +kernel
theorem dX8_shots_6 : decode cX8_shots 6 = .ok (.if_icmp .ge 38, 3) := by decide +kernel
theorem dX8_shots_9 : decode cX8_shots 9 = .ok (.aload_n 0, 1) := by decide +kernel
theorem dX8_shots_10 : decode cX8_shots 10 = .ok (.iload_n 2, 1) := by decide +kernel
theorem dX8_shots_11 : decode cX8_shots 11 = .ok (.invokestatic 85, 3) := by decide +kernel
theorem dX8_shots_14 : decode cX8_shots 14 = .ok (.istore_n 3, 1) := by decide +kernel
theorem dX8_shots_15 : decode cX8_shots 15 = .ok (.iload_n 3, 1) := by decide +kernel
theorem dX8_shots_16 : decode cX8_shots 16 = .ok (.bipush (-5), 2) := by decide +kernel
theorem dX8_shots_18 : decode cX8_shots 18 = .ok (.if_icmp .eq 20, 3) := by decide +kernel
theorem dX8_shots_21 : decode cX8_shots 21 = .ok (.iinc 1 1, 3) := by decide +kernel
theorem dX8_shots_24 : decode cX8_shots 24 = .ok (.aload_n 0, 1) := by decide +kernel
theorem dX8_shots_25 : decode cX8_shots 25 = .ok (.iconst 2, 1) := by decide +kernel
theorem dX8_shots_26 : decode cX8_shots 26 = .ok (.iaload, 1) := by decide +kernel
theorem dX8_shots_27 : decode cX8_shots 27 = .ok (.bipush 80, 2) := by decide +kernel
theorem dX8_shots_29 : decode cX8_shots 29 = .ok (.if_icmp .ge 9, 3) := by decide +kernel
theorem dX8_shots_32 : decode cX8_shots 32 = .ok (.aload_n 0, 1) := by decide +kernel
theorem dX8_shots_33 : decode cX8_shots 33 = .ok (.iload_n 3, 1) := by decide +kernel
theorem dX8_shots_34 : decode cX8_shots 34 = .ok (.iload_n 2, 1) := by decide +kernel
theorem dX8_shots_35 : decode cX8_shots 35 = .ok (.invokestatic 88, 3) := by decide +kernel
theorem dX8_shots_38 : decode cX8_shots 38 = .ok (.iinc 2 1, 3) := by decide +kernel
theorem dX8_shots_41 : decode cX8_shots 41 = .ok (.goto (-37), 3) := by decide +kernel
theorem dX8_shots_44 : decode cX8_shots 44 = .ok (.aload_n 0, 1) := by decide +kernel
theorem dX8_shots_45 : decode cX8_shots 45 = .ok (.iconst 3, 1) := by decide +kernel
theorem dX8_shots_46 : decode cX8_shots 46 = .ok (.dup2, 1) := by decide +kernel
theorem dX8_shots_47 : decode cX8_shots 47 = .ok (.iaload, 1) := by decide +kernel
theorem dX8_shots_48 : decode cX8_shots 48 = .ok (.iconst 1, 1) := by decide +kernel
theorem dX8_shots_49 : decode cX8_shots 49 = .ok (.iadd, 1) := by decide +kernel
theorem dX8_shots_50 : decode cX8_shots 50 = .ok (.iastore, 1) := by decide +kernel
theorem dX8_shots_51 : decode cX8_shots 51 = .ok (.iload_n 1, 1) := by decide +kernel
theorem dX8_shots_52 : decode cX8_shots 52 = .ok (.ireturn, 1) := by decide +kernel
set_option maxRecDepth 20000 in
theorem ggX8_takes_X8_isGood : GoodIn wsX8_takes wsX8_isGood := goodIn_r _ [4] (by decide +kernel) (by decide +kernel)
set_option maxRecDepth 20000 in
theorem gX8_takes_X8_isGood : GoodIn wsX8_takes (va_wsS RX8 92 yX8_isGood wsX8_isGood) := goodIn_app (goodIn_of _ (by decide +kernel)) ggX8_takes_X8_isGood
theorem dX8_takes_0 : decode cX8_takes 0 = .ok (.sipush 132, 3) := by decide +kernel
theorem dX8_takes_3 : decode cX8_takes 3 = .ok (.iconst 5, 1) := by decide +kernel
theorem dX8_takes_4 : decode cX8_takes 4 = .ok (.aload_n 0, 1) := by decide +kernel
theorem dX8_takes_5 : decode cX8_takes 5 = .ok (.iconst 2, 1) := by decide +kernel
theorem dX8_takes_6 : decode cX8_takes 6 = .ok (.iaload, 1) := by decide +kernel
theorem dX8_takes_7 : decode cX8_takes 7 = .ok (.imul, 1) := by decide +kernel
theorem dX8_takes_8 : decode cX8_takes 8 = .ok (.iadd, 1) := by decide +kernel
theorem dX8_takes_9 : decode cX8_takes 9 = .ok (.istore_n 3, 1) := by decide +kernel
theorem dX8_takes_10 : decode cX8_takes 10 = .ok (.aload_n 0, 1) := by decide +kernel
theorem dX8_takes_11 : decode cX8_takes 11 = .ok (.iload_n 2, 1) := by decide +kernel
theorem dX8_takes_12 : decode cX8_takes 12 = .ok (.ifCond .ne 9, 3) := by decide +kernel
theorem dX8_takes_15 : decode cX8_takes 15 = .ok (.aload_n 0, 1) := by decide +kernel
theorem dX8_takes_16 : decode cX8_takes 16 = .ok (.iconst 1, 1) := by decide +kernel
theorem dX8_takes_17 : decode cX8_takes 17 = .ok (.iaload, 1) := by decide +kernel
theorem dX8_takes_18 : decode cX8_takes 18 = .ok (.goto 10, 3) := by decide +kernel
theorem dX8_takes_21 : decode cX8_takes 21 = .ok (.aload_n 0, 1) := by decide +kernel
theorem dX8_takes_22 : decode cX8_takes 22 = .ok (.iconst 0, 1) := by decide +kernel
theorem dX8_takes_23 : decode cX8_takes 23 = .ok (.iaload, 1) := by decide +kernel
theorem dX8_takes_24 : decode cX8_takes 24 = .ok (.aload_n 0, 1) := by decide +kernel
theorem dX8_takes_25 : decode cX8_takes 25 = .ok (.iconst 1, 1) := by decide +kernel
theorem dX8_takes_26 : decode cX8_takes 26 = .ok (.iaload, 1) := by decide +kernel
theorem dX8_takes_27 : decode cX8_takes 27 = .ok (.isub, 1) := by decide +kernel
theorem dX8_takes_28 : decode cX8_takes 28 = .ok (.invokestatic 92, 3) := by decide +kernel
theorem dX8_takes_31 : decode cX8_takes 31 = .ok (.istore 4, 2) := by decide +kernel
theorem dX8_takes_33 : decode cX8_takes 33 = .ok (.aload_n 0, 1) := by decide +kernel
theorem dX8_takes_34 : decode cX8_takes 34 = .ok (.bipush 72, 2) := by decide +kernel
theorem dX8_takes_36 : decode cX8_takes 36 = .ok (.iload_n 1, 1) := by decide +kernel
theorem dX8_takes_37 : decode cX8_takes 37 = .ok (.iadd, 1) := by decide +kernel
theorem dX8_takes_38 : decode cX8_takes 38 = .ok (.iaload, 1) := by decide +kernel
theorem dX8_takes_39 : decode cX8_takes 39 = .ok (.istore 5, 2) := by decide +kernel
theorem dX8_takes_41 : decode cX8_takes 41 = .ok (.aload_n 0, 1) := by decide +kernel
theorem dX8_takes_42 : decode cX8_takes 42 = .ok (.iload_n 3, 1) := by decide +kernel
theorem dX8_takes_43 : decode cX8_takes 43 = .ok (.iconst 0, 1) := by decide +kernel
theorem dX8_takes_44 : decode cX8_takes 44 = .ok (.iadd, 1) := by decide +kernel
theorem dX8_takes_45 : decode cX8_takes 45 = .ok (.iload_n 1, 1) := by decide +kernel
theorem dX8_takes_46 : decode cX8_takes 46 = .ok (.iastore, 1) := by decide +kernel
theorem dX8_takes_47 : decode cX8_takes 47 = .ok (.aload_n 0, 1) := by decide +kernel
theorem dX8_takes_48 : decode cX8_takes 48 = .ok (.iload_n 3, 1) := by decide +kernel
theorem dX8_takes_49 : decode cX8_takes 49 = .ok (.iconst 1, 1) := by decide +kernel
theorem dX8_takes_50 : decode cX8_takes 50 = .ok (.iadd, 1) := by decide +kernel
theorem dX8_takes_51 : decode cX8_takes 51 = .ok (.iload 5, 2) := by decide +kernel
theorem dX8_takes_53 : decode cX8_takes 53 = .ok (.bipush (-5), 2) := by decide +kernel
theorem dX8_takes_55 : decode cX8_takes 55 = .ok (.if_icmp .eq 8, 3) := by decide +kernel
theorem dX8_takes_58 : decode cX8_takes 58 = .ok (.iload 4, 2) := by decide +kernel
theorem dX8_takes_60 : decode cX8_takes 60 = .ok (.ifCond .eq 8, 3) := by decide +kernel
theorem dX8_takes_63 : decode cX8_takes 63 = .ok (.iload 5, 2) := by decide +kernel
theorem dX8_takes_65 : decode cX8_takes 65 = .ok (.goto 8, 3) := by decide +kernel
theorem dX8_takes_68 : decode cX8_takes 68 = .ok (.iload 5, 2) := by decide +kernel
theorem dX8_takes_70 : decode cX8_takes 70 = .ok (.bipush 10, 2) := by decide +kernel
theorem dX8_takes_72 : decode cX8_takes 72 = .ok (.idiv, 1) := by decide +kernel
theorem dX8_takes_73 : decode cX8_takes 73 = .ok (.iastore, 1) := by decide +kernel
theorem dX8_takes_74 : decode cX8_takes 74 = .ok (.aload_n 0, 1) := by decide +kernel
theorem dX8_takes_75 : decode cX8_takes 75 = .ok (.iload_n 3, 1) := by decide +kernel
theorem dX8_takes_76 : decode cX8_takes 76 = .ok (.iconst 2, 1) := by decide +kernel
theorem dX8_takes_77 : decode cX8_takes 77 = .ok (.iadd, 1) := by decide +kernel
theorem dX8_takes_78 : decode cX8_takes 78 = .ok (.iload 4, 2) := by decide +kernel
theorem dX8_takes_80 : decode cX8_takes 80 = .ok (.ifCond .eq 7, 3) := by decide +kernel
theorem dX8_takes_83 : decode cX8_takes 83 = .ok (.iconst 1, 1) := by decide +kernel
theorem dX8_takes_84 : decode cX8_takes 84 = .ok (.goto 4, 3) := by decide +kernel
theorem dX8_takes_87 : decode cX8_takes 87 = .ok (.iconst 0, 1) := by decide +kernel
theorem dX8_takes_88 : decode cX8_takes 88 = .ok (.iastore, 1) := by decide +kernel
theorem dX8_takes_89 : decode cX8_takes 89 = .ok (.aload_n 0, 1) := by decide +kernel
theorem dX8_takes_90 : decode cX8_takes 90 = .ok (.iload_n 3, 1) := by decide +kernel
theorem dX8_takes_91 : decode cX8_takes 91 = .ok (.iconst 3, 1) := by decide +kernel
theorem dX8_takes_92 : decode cX8_takes 92 = .ok (.iadd, 1) := by decide +kernel
theorem dX8_takes_93 : decode cX8_takes 93 = .ok (.aload_n 0, 1) := by decide +kernel
theorem dX8_takes_94 : decode cX8_takes 94 = .ok (.iconst 3, 1) := by decide +kernel
theorem dX8_takes_95 : decode cX8_takes 95 = .ok (.iaload, 1) := by decide +kernel
theorem dX8_takes_96 : decode cX8_takes 96 = .ok (.iastore, 1) := by decide +kernel
theorem dX8_takes_97 : decode cX8_takes 97 = .ok (.aload_n 0, 1) := by decide +kernel
theorem dX8_takes_98 : decode cX8_takes 98 = .ok (.iload_n 3, 1) := by decide +kernel
theorem dX8_takes_99 : decode cX8_takes 99 = .ok (.iconst 4, 1) := by decide +kernel
theorem dX8_takes_100 : decode cX8_takes 100 = .ok (.iadd, 1) := by decide +kernel
theorem dX8_takes_101 : decode cX8_takes 101 = .ok (.iload_n 2, 1) := by decide +kernel
theorem dX8_takes_102 : decode cX8_takes 102 = .ok (.iastore, 1) := by decide +kernel
theorem dX8_takes_103 : decode cX8_takes 103 = .ok (.aload_n 0, 1) := by decide +kernel
theorem dX8_takes_104 : decode cX8_takes 104 = .ok (.iconst 2, 1) := by decide +kernel
theorem dX8_takes_105 : decode cX8_takes 105 = .ok (.dup2, 1) := by decide +kernel
theorem dX8_takes_106 : decode cX8_takes 106 = .ok (.iaload, 1) := by decide +kernel
theorem dX8_takes_107 : decode cX8_takes 107 = .ok (.iconst 1, 1) := by decide +kernel
theorem dX8_takes_108 : decode cX8_takes 108 = .ok (.iadd, 1) := by decide +kernel
theorem dX8_takes_109 : decode cX8_takes 109 = .ok (.iastore, 1) := by decide +kernel
theorem dX8_takes_110 : decode cX8_takes 110 = .ok (.return_, 1) := by decide +kernel
set_option maxRecDepth 20000 in
theorem ggX8_shoot_X8_lays : GoodIn wsX8_shoot wsX8_lays := goodIn_r _ [6] (by decide +kernel) (by decide +kernel)
set_option maxRecDepth 20000 in
theorem gX8_shoot_X8_lays : GoodIn wsX8_shoot (va_wsS RX8 39 yX8_lays wsX8_lays) := goodIn_app (goodIn_of _ (by decide +kernel)) ggX8_shoot_X8_lays
set_option maxRecDepth 20000 in
theorem ggX8_shoot_X8_shots : GoodIn wsX8_shoot wsX8_shots := goodIn_r _ [9, 10, 11, 5, 12, 13, 14, 15, 16, 17, 18] (by decide +kernel) (by decide +kernel)
set_option maxRecDepth 20000 in
theorem gX8_shoot_X8_shots : GoodIn wsX8_shoot (va_wsS RX8 96 yX8_shots wsX8_shots) := goodIn_app (goodIn_of _ (by decide +kernel)) ggX8_shoot_X8_shots
set_option maxRecDepth 20000 in
theorem ggX8_shoot_X8_records : GoodIn wsX8_shoot wsX8_records := goodIn_r _ [22, 23, 24, 3, 4, 5, 6, 25, 26, 27, 28, 29, 30, 31, 32, 33, 34, 35, 36, 37] (by decide +kernel) (by decide +kernel)
set_option maxRecDepth 20000 in
theorem gX8_shoot_X8_records : GoodIn wsX8_shoot (wsV RX8 47 RX8 yX8_records wsX8_records) := goodIn_app (goodIn_of _ (by decide +kernel)) ggX8_shoot_X8_records
theorem dX8_shoot_0 : decode cX8_shoot 0 = .ok (.aload_n 0, 1) := by decide +kernel
theorem dX8_shoot_1 : decode cX8_shoot 1 = .ok (.getfield 7, 3) := by decide +kernel
theorem dX8_shoot_4 : decode cX8_shoot 4 = .ok (.iconst 0, 1) := by decide +kernel
theorem dX8_shoot_5 : decode cX8_shoot 5 = .ok (.iaload, 1) := by decide +kernel
theorem dX8_shoot_6 : decode cX8_shoot 6 = .ok (.ifCond .ne 6, 3) := by decide +kernel
theorem dX8_shoot_9 : decode cX8_shoot 9 = .ok (.bipush (-4), 2) := by decide +kernel
theorem dX8_shoot_11 : decode cX8_shoot 11 = .ok (.ireturn, 1) := by decide +kernel
theorem dX8_shoot_12 : decode cX8_shoot 12 = .ok (.aload_n 0, 1) := by decide +kernel
theorem dX8_shoot_13 : decode cX8_shoot 13 = .ok (.getfield 7, 3) := by decide +kernel
theorem dX8_shoot_16 : decode cX8_shoot 16 = .ok (.iconst 0, 1) := by decide +kernel
theorem dX8_shoot_17 : decode cX8_shoot 17 = .ok (.aload_n 0, 1) := by decide +kernel
theorem dX8_shoot_18 : decode cX8_shoot 18 = .ok (.getfield 13, 3) := by decide +kernel
theorem dX8_shoot_21 : decode cX8_shoot 21 = .ok (.iconst 0, 1) := by decide +kernel
theorem dX8_shoot_22 : decode cX8_shoot 22 = .ok (.invokestatic 39, 3) := by decide +kernel
theorem dX8_shoot_25 : decode cX8_shoot 25 = .ok (.aload_n 0, 1) := by decide +kernel
theorem dX8_shoot_26 : decode cX8_shoot 26 = .ok (.getfield 13, 3) := by decide +kernel
theorem dX8_shoot_29 : decode cX8_shoot 29 = .ok (.invokestatic 96, 3) := by decide +kernel
theorem dX8_shoot_32 : decode cX8_shoot 32 = .ok (.istore_n 1, 1) := by decide +kernel
theorem dX8_shoot_33 : decode cX8_shoot 33 = .ok (.aload_n 0, 1) := by decide +kernel
theorem dX8_shoot_34 : decode cX8_shoot 34 = .ok (.getfield 7, 3) := by decide +kernel
theorem dX8_shoot_37 : decode cX8_shoot 37 = .ok (.iconst 2, 1) := by decide +kernel
theorem dX8_shoot_38 : decode cX8_shoot 38 = .ok (.iaload, 1) := by decide +kernel
theorem dX8_shoot_39 : decode cX8_shoot 39 = .ok (.iload_n 1, 1) := by decide +kernel
theorem dX8_shoot_40 : decode cX8_shoot 40 = .ok (.iadd, 1) := by decide +kernel
theorem dX8_shoot_41 : decode cX8_shoot 41 = .ok (.bipush 80, 2) := by decide +kernel
theorem dX8_shoot_43 : decode cX8_shoot 43 = .ok (.if_icmp .le 6, 3) := by decide +kernel
theorem dX8_shoot_46 : decode cX8_shoot 46 = .ok (.bipush (-3), 2) := by decide +kernel
theorem dX8_shoot_48 : decode cX8_shoot 48 = .ok (.ireturn, 1) := by decide +kernel
theorem dX8_shoot_49 : decode cX8_shoot 49 = .ok (.aload_n 0, 1) := by decide +kernel
theorem dX8_shoot_50 : decode cX8_shoot 50 = .ok (.aload_n 0, 1) := by decide +kernel
theorem dX8_shoot_51 : decode cX8_shoot 51 = .ok (.getfield 7, 3) := by decide +kernel
theorem dX8_shoot_54 : decode cX8_shoot 54 = .ok (.invokevirtual 47, 3) := by decide +kernel
theorem dX8_shoot_57 : decode cX8_shoot 57 = .ok (.aload_n 0, 1) := by decide +kernel
theorem dX8_shoot_58 : decode cX8_shoot 58 = .ok (.getfield 13, 3) := by decide +kernel
theorem dX8_shoot_61 : decode cX8_shoot 61 = .ok (.iconst 0, 1) := by decide +kernel
theorem dX8_shoot_62 : decode cX8_shoot 62 = .ok (.aload_n 0, 1) := by decide +kernel
theorem dX8_shoot_63 : decode cX8_shoot 63 = .ok (.getfield 7, 3) := by decide +kernel
theorem dX8_shoot_66 : decode cX8_shoot 66 = .ok (.iconst 0, 1) := by decide +kernel
theorem dX8_shoot_67 : decode cX8_shoot 67 = .ok (.invokestatic 39, 3) := by decide +kernel
theorem dX8_shoot_70 : decode cX8_shoot 70 = .ok (.iload_n 1, 1) := by decide +kernel
theorem dX8_shoot_71 : decode cX8_shoot 71 = .ok (.ireturn, 1) := by decide +kernel
set_option maxRecDepth 20000 in
theorem ggX8_scan_X8_in : GoodIn wsX8_scan wsX8_in := goodIn_r _ [6] (by decide +kernel) (by decide +kernel)
set_option maxRecDepth 20000 in
theorem gX8_scan_X8_in : GoodIn wsX8_scan (va_wsS RX8 61 yX8_in wsX8_in) := goodIn_app (goodIn_of _ (by decide +kernel)) ggX8_scan_X8_in
set_option maxRecDepth 20000 in
theorem ggX8_scan_X8_lays : GoodIn wsX8_scan wsX8_lays := goodIn_r _ [9] (by decide +kernel) (by decide +kernel)
set_option maxRecDepth 20000 in
theorem gX8_scan_X8_lays : GoodIn wsX8_scan (va_wsS RX8 39 yX8_lays wsX8_lays) := goodIn_app (goodIn_of _ (by decide +kernel)) ggX8_scan_X8_lays
set_option maxRecDepth 20000 in
theorem ggX8_scan_X8_shots : GoodIn wsX8_scan wsX8_shots := goodIn_r _ [12, 13, 14, 5, 15, 16, 17, 18, 19, 20, 21] (by decide +kernel) (by decide +kernel)
set_option maxRecDepth 20000 in
theorem gX8_scan_X8_shots : GoodIn wsX8_scan (va_wsS RX8 96 yX8_shots wsX8_shots) := goodIn_app (goodIn_of _ (by decide +kernel)) ggX8_scan_X8_shots
set_option maxRecDepth 20000 in
theorem ggX8_scan_X8_turns : GoodIn wsX8_scan wsX8_turns := goodIn_r _ [24, 25, 26, 5, 27, 28, 29, 30] (by decide +kernel) (by decide +kernel)
set_option maxRecDepth 20000 in
theorem gX8_scan_X8_turns : GoodIn wsX8_scan (va_wsS RX8 81 yX8_turns wsX8_turns) := goodIn_app (goodIn_of _ (by decide +kernel)) ggX8_scan_X8_turns
set_option maxRecDepth 20000 in
theorem ggX8_scan_X8_records : GoodIn wsX8_scan wsX8_records := goodIn_r _ [34, 35, 36, 7, 8, 5, 9, 37, 38, 39, 40, 41, 42, 43, 44, 45, 46, 47, 48, 49] (by decide +kernel) (by decide +kernel)
set_option maxRecDepth 20000 in
theorem gX8_scan_X8_records : GoodIn wsX8_scan (wsV RX8 47 RX8 yX8_records wsX8_records) := goodIn_app (goodIn_of _ (by decide +kernel)) ggX8_scan_X8_records
theorem dX8_scan_0 : decode cX8_scan 0 = .ok (.iload_n 1, 1) := by decide +kernel
theorem dX8_scan_1 : decode cX8_scan 1 = .ok (.iconst 1, 1) := by decide +kernel
theorem dX8_scan_2 : decode cX8_scan 2 = .ok (.bipush 60, 2) := by decide +kernel
theorem dX8_scan_4 : decode cX8_scan 4 = .ok (.invokestatic 61, 3) := by decide +kernel
theorem dX8_scan_7 : decode cX8_scan 7 = .ok (.ifCond .ne 6, 3) := by decide +kernel
theorem dX8_scan_10 : decode cX8_scan 10 = .ok (.bipush (-2), 2) := by decide +kernel
theorem dX8_scan_12 : decode cX8_scan 12 = .ok (.ireturn, 1) := by decide +kernel
theorem dX8_scan_13 : decode cX8_scan 13 = .ok (.aload_n 0, 1) := by decide +kernel
theorem dX8_scan_14 : decode cX8_scan 14 = .ok (.getfield 7, 3) := by decide +kernel
theorem dX8_scan_17 : decode cX8_scan 17 = .ok (.iconst 0, 1) := by decide +kernel
theorem dX8_scan_18 : decode cX8_scan 18 = .ok (.iaload, 1) := by decide +kernel
theorem dX8_scan_19 : decode cX8_scan 19 = .ok (.ifCond .ne 6, 3) := by decide +kernel
theorem dX8_scan_22 : decode cX8_scan 22 = .ok (.bipush (-4), 2) := by decide +kernel
theorem dX8_scan_24 : decode cX8_scan 24 = .ok (.ireturn, 1) := by decide +kernel
theorem dX8_scan_25 : decode cX8_scan 25 = .ok (.aload_n 0, 1) := by decide +kernel
theorem dX8_scan_26 : decode cX8_scan 26 = .ok (.getfield 7, 3) := by decide +kernel
theorem dX8_scan_29 : decode cX8_scan 29 = .ok (.iconst 0, 1) := by decide +kernel
theorem dX8_scan_30 : decode cX8_scan 30 = .ok (.aload_n 0, 1) := by decide +kernel
theorem dX8_scan_31 : decode cX8_scan 31 = .ok (.getfield 13, 3) := by decide +kernel
theorem dX8_scan_34 : decode cX8_scan 34 = .ok (.iconst 0, 1) := by decide +kernel
theorem dX8_scan_35 : decode cX8_scan 35 = .ok (.invokestatic 39, 3) := by decide +kernel
theorem dX8_scan_38 : decode cX8_scan 38 = .ok (.iconst 0, 1) := by decide +kernel
theorem dX8_scan_39 : decode cX8_scan 39 = .ok (.istore_n 2, 1) := by decide +kernel
theorem dX8_scan_40 : decode cX8_scan 40 = .ok (.iconst 0, 1) := by decide +kernel
theorem dX8_scan_41 : decode cX8_scan 41 = .ok (.istore_n 3, 1) := by decide +kernel
theorem dX8_scan_42 : decode cX8_scan 42 = .ok (.iconst 0, 1) := by decide +kernel
theorem dX8_scan_43 : decode cX8_scan 43 = .ok (.istore 4, 2) := by decide +kernel
theorem dX8_scan_45 : decode cX8_scan 45 = .ok (.iload 4, 2) := by decide +kernel
theorem dX8_scan_47 : decode cX8_scan 47 = .ok (.iload_n 1, 1) := by decide +kernel
theorem dX8_scan_48 : decode cX8_scan 48 = .ok (.if_icmp .ge 44, 3) := by decide +kernel
theorem dX8_scan_51 : decode cX8_scan 51 = .ok (.aload_n 0, 1) := by decide +kernel
theorem dX8_scan_52 : decode cX8_scan 52 = .ok (.getfield 13, 3) := by decide +kernel
theorem dX8_scan_55 : decode cX8_scan 55 = .ok (.iconst 1, 1) := by decide +kernel
theorem dX8_scan_56 : decode cX8_scan 56 = .ok (.iaload, 1) := by decide +kernel
theorem dX8_scan_57 : decode cX8_scan 57 = .ok (.aload_n 0, 1) := by decide +kernel
theorem dX8_scan_58 : decode cX8_scan 58 = .ok (.getfield 13, 3) := by decide +kernel
theorem dX8_scan_61 : decode cX8_scan 61 = .ok (.iconst 0, 1) := by decide +kernel
theorem dX8_scan_62 : decode cX8_scan 62 = .ok (.iaload, 1) := by decide +kernel
theorem dX8_scan_63 : decode cX8_scan 63 = .ok (.if_icmp .ge 29, 3) := by decide +kernel
theorem dX8_scan_66 : decode cX8_scan 66 = .ok (.iload_n 2, 1) := by decide +kernel
theorem dX8_scan_67 : decode cX8_scan 67 = .ok (.aload_n 0, 1) := by decide +kernel
theorem dX8_scan_68 : decode cX8_scan 68 = .ok (.getfield 13, 3) := by decide +kernel
theorem dX8_scan_71 : decode cX8_scan 71 = .ok (.invokestatic 96, 3) := by decide +kernel
theorem dX8_scan_74 : decode cX8_scan 74 = .ok (.iadd, 1) := by decide +kernel
theorem dX8_scan_75 : decode cX8_scan 75 = .ok (.istore_n 2, 1) := by decide +kernel
theorem dX8_scan_76 : decode cX8_scan 76 = .ok (.iload_n 3, 1) := by decide +kernel
theorem dX8_scan_77 : decode cX8_scan 77 = .ok (.aload_n 0, 1) := by decide +kernel
theorem dX8_scan_78 : decode cX8_scan 78 = .ok (.getfield 13, 3) := by decide +kernel
theorem dX8_scan_81 : decode cX8_scan 81 = .ok (.invokestatic 81, 3) := by decide +kernel
theorem dX8_scan_84 : decode cX8_scan 84 = .ok (.iadd, 1) := by decide +kernel
theorem dX8_scan_85 : decode cX8_scan 85 = .ok (.istore_n 3, 1) := by decide +kernel
theorem dX8_scan_86 : decode cX8_scan 86 = .ok (.iinc 4 1, 3) := by decide +kernel
theorem dX8_scan_89 : decode cX8_scan 89 = .ok (.goto (-44), 3) := by decide +kernel
theorem dX8_scan_92 : decode cX8_scan 92 = .ok (.iload_n 2, 1) := by decide +kernel
theorem dX8_scan_93 : decode cX8_scan 93 = .ok (.aload_n 0, 1) := by decide +kernel
theorem dX8_scan_94 : decode cX8_scan 94 = .ok (.getfield 13, 3) := by decide +kernel
theorem dX8_scan_97 : decode cX8_scan 97 = .ok (.iconst 1, 1) := by decide +kernel
theorem dX8_scan_98 : decode cX8_scan 98 = .ok (.iaload, 1) := by decide +kernel
theorem dX8_scan_99 : decode cX8_scan 99 = .ok (.aload_n 0, 1) := by decide +kernel
theorem dX8_scan_100 : decode cX8_scan 100 = .ok (.getfield 13, 3) := by decide +kernel
theorem dX8_scan_103 : decode cX8_scan 103 = .ok (.iconst 0, 1) := by decide +kernel
theorem dX8_scan_104 : decode cX8_scan 104 = .ok (.iaload, 1) := by decide +kernel
theorem dX8_scan_105 : decode cX8_scan 105 = .ok (.if_icmp .ne 17, 3) := by decide +kernel
theorem dX8_scan_108 : decode cX8_scan 108 = .ok (.iload_n 3, 1) := by decide +kernel
theorem dX8_scan_109 : decode cX8_scan 109 = .ok (.ifCond .lt 13, 3) := by decide +kernel
theorem dX8_scan_112 : decode cX8_scan 112 = .ok (.aload_n 0, 1) := by decide +kernel
theorem dX8_scan_113 : decode cX8_scan 113 = .ok (.getfield 13, 3) := by decide +kernel
theorem dX8_scan_116 : decode cX8_scan 116 = .ok (.invokestatic 96, 3) := by decide +kernel
theorem dX8_scan_119 : decode cX8_scan 119 = .ok (.goto 4, 3) := by decide +kernel
theorem dX8_scan_122 : decode cX8_scan 122 = .ok (.iconst 0, 1) := by decide +kernel
theorem dX8_scan_123 : decode cX8_scan 123 = .ok (.iadd, 1) := by decide +kernel
theorem dX8_scan_124 : decode cX8_scan 124 = .ok (.istore_n 2, 1) := by decide +kernel
theorem dX8_scan_125 : decode cX8_scan 125 = .ok (.aload_n 0, 1) := by decide +kernel
theorem dX8_scan_126 : decode cX8_scan 126 = .ok (.getfield 7, 3) := by decide +kernel
theorem dX8_scan_129 : decode cX8_scan 129 = .ok (.iconst 2, 1) := by decide +kernel
theorem dX8_scan_130 : decode cX8_scan 130 = .ok (.iaload, 1) := by decide +kernel
theorem dX8_scan_131 : decode cX8_scan 131 = .ok (.iload_n 2, 1) := by decide +kernel
theorem dX8_scan_132 : decode cX8_scan 132 = .ok (.iadd, 1) := by decide +kernel
theorem dX8_scan_133 : decode cX8_scan 133 = .ok (.bipush 80, 2) := by decide +kernel
theorem dX8_scan_135 : decode cX8_scan 135 = .ok (.if_icmp .le 6, 3) := by decide +kernel
theorem dX8_scan_138 : decode cX8_scan 138 = .ok (.bipush (-3), 2) := by decide +kernel
theorem dX8_scan_140 : decode cX8_scan 140 = .ok (.ireturn, 1) := by decide +kernel
theorem dX8_scan_141 : decode cX8_scan 141 = .ok (.aload_n 0, 1) := by decide +kernel
theorem dX8_scan_142 : decode cX8_scan 142 = .ok (.aload_n 0, 1) := by decide +kernel
theorem dX8_scan_143 : decode cX8_scan 143 = .ok (.getfield 7, 3) := by decide +kernel
theorem dX8_scan_146 : decode cX8_scan 146 = .ok (.invokevirtual 47, 3) := by decide +kernel
theorem dX8_scan_149 : decode cX8_scan 149 = .ok (.aload_n 0, 1) := by decide +kernel
theorem dX8_scan_150 : decode cX8_scan 150 = .ok (.getfield 13, 3) := by decide +kernel
theorem dX8_scan_153 : decode cX8_scan 153 = .ok (.iconst 0, 1) := by decide +kernel
theorem dX8_scan_154 : decode cX8_scan 154 = .ok (.aload_n 0, 1) := by decide +kernel
theorem dX8_scan_155 : decode cX8_scan 155 = .ok (.getfield 7, 3) := by decide +kernel
theorem dX8_scan_158 : decode cX8_scan 158 = .ok (.iconst 0, 1) := by decide +kernel
theorem dX8_scan_159 : decode cX8_scan 159 = .ok (.invokestatic 39, 3) := by decide +kernel
theorem dX8_scan_162 : decode cX8_scan 162 = .ok (.iload_n 2, 1) := by decide +kernel
theorem dX8_scan_163 : decode cX8_scan 163 = .ok (.ireturn, 1) := by decide +kernel
set_option maxRecDepth 20000 in
theorem ggX8_isPicture_X8_in : GoodIn wsX8_isPicture wsX8_in := goodIn_r _ [5] (by decide +kernel) (by decide +kernel)
set_option maxRecDepth 20000 in
theorem gX8_isPicture_X8_in : GoodIn wsX8_isPicture (va_wsS RX8 61 yX8_in wsX8_in) := goodIn_app (goodIn_of _ (by decide +kernel)) ggX8_isPicture_X8_in
theorem dX8_isPicture_0 : decode cX8_isPicture 0 = .ok (.iload_n 1, 1) := by decide +kernel
theorem dX8_isPicture_1 : decode cX8_isPicture 1 = .ok (.iconst 0, 1) := by decide +kernel
theorem dX8_isPicture_2 : decode cX8_isPicture 2 = .ok (.aload_n 0, 1) := by decide +kernel
theorem dX8_isPicture_3 : decode cX8_isPicture 3 = .ok (.getfield 7, 3) := by decide +kernel
theorem dX8_isPicture_6 : decode cX8_isPicture 6 = .ok (.iconst 2, 1) := by decide +kernel
theorem dX8_isPicture_7 : decode cX8_isPicture 7 = .ok (.iaload, 1) := by decide +kernel
theorem dX8_isPicture_8 : decode cX8_isPicture 8 = .ok (.iconst 1, 1) := by decide +kernel
theorem dX8_isPicture_9 : decode cX8_isPicture 9 = .ok (.isub, 1) := by decide +kernel
theorem dX8_isPicture_10 : decode cX8_isPicture 10 = .ok (.invokestatic 61, 3) := by decide +kernel
theorem dX8_isPicture_13 : decode cX8_isPicture 13 = .ok (.ireturn, 1) := by decide +kernel
set_option maxRecDepth 20000 in
theorem ggX8_throwAway_X8_isPicture : GoodIn wsX8_throwAway wsX8_isPicture := goodIn_r _ [6, 1, 7, 8, 5, 9, 19, 20, 21, 22, 23, 24, 25, 26, 27, 28, 29, 30, 31] (by decide +kernel) (by decide +kernel)
set_option maxRecDepth 20000 in
theorem gX8_throwAway_X8_isPicture : GoodIn wsX8_throwAway (wsV RX8 99 RX8 yX8_isPicture wsX8_isPicture) := goodIn_app (goodIn_of _ (by decide +kernel)) ggX8_throwAway_X8_isPicture
set_option maxRecDepth 20000 in
theorem ggX8_throwAway_X8_records : GoodIn wsX8_throwAway wsX8_records := goodIn_r _ [13, 14, 15, 16, 17, 5, 18, 19, 20, 21, 22, 23, 24, 25, 26, 27, 28, 29, 30, 31] (by decide +kernel) (by decide +kernel)
set_option maxRecDepth 20000 in
theorem gX8_throwAway_X8_records : GoodIn wsX8_throwAway (wsV RX8 47 RX8 yX8_records wsX8_records) := goodIn_app (goodIn_of _ (by decide +kernel)) ggX8_throwAway_X8_records
theorem dX8_throwAway_0 : decode cX8_throwAway 0 = .ok (.aload_n 0, 1) := by decide +kernel
theorem dX8_throwAway_1 : decode cX8_throwAway 1 = .ok (.iload_n 1, 1) := by decide +kernel
theorem dX8_throwAway_2 : decode cX8_throwAway 2 = .ok (.invokevirtual 99, 3) := by decide +kernel
theorem dX8_throwAway_5 : decode cX8_throwAway 5 = .ok (.ifCond .ne 5, 3) := by decide +kernel
theorem dX8_throwAway_8 : decode cX8_throwAway 8 = .ok (.iconst (-1), 1) := by decide +kernel
theorem dX8_throwAway_9 : decode cX8_throwAway 9 = .ok (.ireturn, 1) := by decide +kernel
theorem dX8_throwAway_10 : decode cX8_throwAway 10 = .ok (.aload_n 0, 1) := by decide +kernel
theorem dX8_throwAway_11 : decode cX8_throwAway 11 = .ok (.aload_n 0, 1) := by decide +kernel
theorem dX8_throwAway_12 : decode cX8_throwAway 12 = .ok (.getfield 7, 3) := by decide +kernel
theorem dX8_throwAway_15 : decode cX8_throwAway 15 = .ok (.invokevirtual 47, 3) := by decide +kernel
theorem dX8_throwAway_18 : decode cX8_throwAway 18 = .ok (.aload_n 0, 1) := by decide +kernel
theorem dX8_throwAway_19 : decode cX8_throwAway 19 = .ok (.getfield 7, 3) := by decide +kernel
theorem dX8_throwAway_22 : decode cX8_throwAway 22 = .ok (.iconst 2, 1) := by decide +kernel
theorem dX8_throwAway_23 : decode cX8_throwAway 23 = .ok (.dup2, 1) := by decide +kernel
theorem dX8_throwAway_24 : decode cX8_throwAway 24 = .ok (.iaload, 1) := by decide +kernel
theorem dX8_throwAway_25 : decode cX8_throwAway 25 = .ok (.iconst 1, 1) := by decide +kernel
theorem dX8_throwAway_26 : decode cX8_throwAway 26 = .ok (.isub, 1) := by decide +kernel
theorem dX8_throwAway_27 : decode cX8_throwAway 27 = .ok (.iastore, 1) := by decide +kernel
theorem dX8_throwAway_28 : decode cX8_throwAway 28 = .ok (.iconst 5, 1) := by decide +kernel
theorem dX8_throwAway_29 : decode cX8_throwAway 29 = .ok (.iload_n 1, 1) := by decide +kernel
theorem dX8_throwAway_30 : decode cX8_throwAway 30 = .ok (.imul, 1) := by decide +kernel
theorem dX8_throwAway_31 : decode cX8_throwAway 31 = .ok (.istore_n 2, 1) := by decide +kernel
theorem dX8_throwAway_32 : decode cX8_throwAway 32 = .ok (.iload_n 2, 1) := by decide +kernel
theorem dX8_throwAway_33 : decode cX8_throwAway 33 = .ok (.iconst 5, 1) := by decide +kernel
theorem dX8_throwAway_34 : decode cX8_throwAway 34 = .ok (.aload_n 0, 1) := by decide +kernel
theorem dX8_throwAway_35 : decode cX8_throwAway 35 = .ok (.getfield 7, 3) := by decide +kernel
theorem dX8_throwAway_38 : decode cX8_throwAway 38 = .ok (.iconst 2, 1) := by decide +kernel
theorem dX8_throwAway_39 : decode cX8_throwAway 39 = .ok (.iaload, 1) := by decide +kernel
theorem dX8_throwAway_40 : decode cX8_throwAway 40 = .ok (.imul, 1) := by decide +kernel
theorem dX8_throwAway_41 : decode cX8_throwAway 41 = .ok (.if_icmp .ge 31, 3) := by decide +kernel
theorem dX8_throwAway_44 : decode cX8_throwAway 44 = .ok (.aload_n 0, 1) := by decide +kernel
theorem dX8_throwAway_45 : decode cX8_throwAway 45 = .ok (.getfield 7, 3) := by decide +kernel
theorem dX8_throwAway_48 : decode cX8_throwAway 48 = .ok (.sipush 132, 3) := by decide +kernel
theorem dX8_throwAway_51 : decode cX8_throwAway 51 = .ok (.iload_n 2, 1) := by decide +kernel
theorem dX8_throwAway_52 : decode cX8_throwAway 52 = .ok (.iadd, 1) := by decide +kernel
theorem dX8_throwAway_53 : decode cX8_throwAway 53 = .ok (.aload_n 0, 1) := by decide +kernel
theorem dX8_throwAway_54 : decode cX8_throwAway 54 = .ok (.getfield 7, 3) := by decide +kernel
theorem dX8_throwAway_57 : decode cX8_throwAway 57 = .ok (.sipush 132, 3) := by decide +kernel
theorem dX8_throwAway_60 : decode cX8_throwAway 60 = .ok (.iload_n 2, 1) := by decide +kernel
theorem dX8_throwAway_61 : decode cX8_throwAway 61 = .ok (.iadd, 1) := by decide +kernel
theorem dX8_throwAway_62 : decode cX8_throwAway 62 = .ok (.iconst 5, 1) := by decide +kernel
theorem dX8_throwAway_63 : decode cX8_throwAway 63 = .ok (.iadd, 1) := by decide +kernel
theorem dX8_throwAway_64 : decode cX8_throwAway 64 = .ok (.iaload, 1) := by decide +kernel
theorem dX8_throwAway_65 : decode cX8_throwAway 65 = .ok (.iastore, 1) := by decide +kernel
theorem dX8_throwAway_66 : decode cX8_throwAway 66 = .ok (.iinc 2 1, 3) := by decide +kernel
theorem dX8_throwAway_69 : decode cX8_throwAway 69 = .ok (.goto (-37), 3) := by decide +kernel
theorem dX8_throwAway_72 : decode cX8_throwAway 72 = .ok (.iconst 0, 1) := by decide +kernel
theorem dX8_throwAway_73 : decode cX8_throwAway 73 = .ok (.istore_n 2, 1) := by decide +kernel
theorem dX8_throwAway_74 : decode cX8_throwAway 74 = .ok (.iload_n 2, 1) := by decide +kernel
theorem dX8_throwAway_75 : decode cX8_throwAway 75 = .ok (.iconst 5, 1) := by decide +kernel
theorem dX8_throwAway_76 : decode cX8_throwAway 76 = .ok (.if_icmp .ge 29, 3) := by decide +kernel
theorem dX8_throwAway_79 : decode cX8_throwAway 79 = .ok (.aload_n 0, 1) := by decide +kernel
theorem dX8_throwAway_80 : decode cX8_throwAway 80 = .ok (.getfield 7, 3) := by decide +kernel
theorem dX8_throwAway_83 : decode cX8_throwAway 83 = .ok (.sipush 132, 3) := by decide +kernel
theorem dX8_throwAway_86 : decode cX8_throwAway 86 = .ok (.iconst 5, 1) := by decide +kernel
theorem dX8_throwAway_87 : decode cX8_throwAway 87 = .ok (.aload_n 0, 1) := by decide +kernel
theorem dX8_throwAway_88 : decode cX8_throwAway 88 = .ok (.getfield 7, 3) := by decide +kernel
theorem dX8_throwAway_91 : decode cX8_throwAway 91 = .ok (.iconst 2, 1) := by decide +kernel
theorem dX8_throwAway_92 : decode cX8_throwAway 92 = .ok (.iaload, 1) := by decide +kernel
theorem dX8_throwAway_93 : decode cX8_throwAway 93 = .ok (.imul, 1) := by decide +kernel
theorem dX8_throwAway_94 : decode cX8_throwAway 94 = .ok (.iadd, 1) := by decide +kernel
theorem dX8_throwAway_95 : decode cX8_throwAway 95 = .ok (.iload_n 2, 1) := by decide +kernel
theorem dX8_throwAway_96 : decode cX8_throwAway 96 = .ok (.iadd, 1) := by decide +kernel
theorem dX8_throwAway_97 : decode cX8_throwAway 97 = .ok (.iconst 0, 1) := by decide +kernel
theorem dX8_throwAway_98 : decode cX8_throwAway 98 = .ok (.iastore, 1) := by decide +kernel
theorem dX8_throwAway_99 : decode cX8_throwAway 99 = .ok (.iinc 2 1, 3) := by decide +kernel
theorem dX8_throwAway_102 : decode cX8_throwAway 102 = .ok (.goto (-28), 3) := by decide +kernel
theorem dX8_throwAway_105 : decode cX8_throwAway 105 = .ok (.aload_n 0, 1) := by decide +kernel
theorem dX8_throwAway_106 : decode cX8_throwAway 106 = .ok (.getfield 7, 3) := by decide +kernel
theorem dX8_throwAway_109 : decode cX8_throwAway 109 = .ok (.iconst 2, 1) := by decide +kernel
theorem dX8_throwAway_110 : decode cX8_throwAway 110 = .ok (.iaload, 1) := by decide +kernel
theorem dX8_throwAway_111 : decode cX8_throwAway 111 = .ok (.ireturn, 1) := by decide +kernel
set_option maxRecDepth 20000 in
theorem ggX8_becomes_X8_records : GoodIn wsX8_becomes wsX8_records := goodIn_r _ [6, 7, 8, 9, 10, 5, 11, 12, 13, 14, 15, 16, 17, 18, 19, 20, 21, 22, 23, 24] (by decide +kernel) (by decide +kernel)
set_option maxRecDepth 20000 in
theorem gX8_becomes_X8_records : GoodIn wsX8_becomes (wsV RX8 47 RX8 yX8_records wsX8_records) := goodIn_app (goodIn_of _ (by decide +kernel)) ggX8_becomes_X8_records
theorem dX8_becomes_0 : decode cX8_becomes 0 = .ok (.aload_n 0, 1) := by decide +kernel
theorem dX8_becomes_1 : decode cX8_becomes 1 = .ok (.getfield 7, 3) := by decide +kernel
theorem dX8_becomes_4 : decode cX8_becomes 4 = .ok (.iload_n 1, 1) := by decide +kernel
theorem dX8_becomes_5 : decode cX8_becomes 5 = .ok (.iaload, 1) := by decide +kernel
theorem dX8_becomes_6 : decode cX8_becomes 6 = .ok (.istore_n 3, 1) := by decide +kernel
theorem dX8_becomes_7 : decode cX8_becomes 7 = .ok (.iload_n 3, 1) := by decide +kernel
theorem dX8_becomes_8 : decode cX8_becomes 8 = .ok (.iload_n 2, 1) := by decide +kernel
theorem dX8_becomes_9 : decode cX8_becomes 9 = .ok (.if_icmp .ne 6, 3) := by decide +kernel
theorem dX8_becomes_12 : decode cX8_becomes 12 = .ok (.bipush (-5), 2) := by decide +kernel
theorem dX8_becomes_14 : decode cX8_becomes 14 = .ok (.ireturn, 1) := by decide +kernel
theorem dX8_becomes_15 : decode cX8_becomes 15 = .ok (.aload_n 0, 1) := by decide +kernel
theorem dX8_becomes_16 : decode cX8_becomes 16 = .ok (.aload_n 0, 1) := by decide +kernel
theorem dX8_becomes_17 : decode cX8_becomes 17 = .ok (.getfield 7, 3) := by decide +kernel
theorem dX8_becomes_20 : decode cX8_becomes 20 = .ok (.invokevirtual 47, 3) := by decide +kernel
theorem dX8_becomes_23 : decode cX8_becomes 23 = .ok (.aload_n 0, 1) := by decide +kernel
theorem dX8_becomes_24 : decode cX8_becomes 24 = .ok (.getfield 7, 3) := by decide +kernel
theorem dX8_becomes_27 : decode cX8_becomes 27 = .ok (.iload_n 1, 1) := by decide +kernel
theorem dX8_becomes_28 : decode cX8_becomes 28 = .ok (.iload_n 2, 1) := by decide +kernel
theorem dX8_becomes_29 : decode cX8_becomes 29 = .ok (.iastore, 1) := by decide +kernel
theorem dX8_becomes_30 : decode cX8_becomes 30 = .ok (.iload_n 3, 1) := by decide +kernel
theorem dX8_becomes_31 : decode cX8_becomes 31 = .ok (.ireturn, 1) := by decide +kernel
set_option maxRecDepth 20000 in
theorem ggX8_setSuction_X8_in : GoodIn wsX8_setSuction wsX8_in := goodIn_r _ [4] (by decide +kernel) (by decide +kernel)
set_option maxRecDepth 20000 in
theorem gX8_setSuction_X8_in : GoodIn wsX8_setSuction (va_wsS RX8 61 yX8_in wsX8_in) := goodIn_app (goodIn_of _ (by decide +kernel)) ggX8_setSuction_X8_in
set_option maxRecDepth 20000 in
theorem ggX8_setSuction_X8_becomes : GoodIn wsX8_setSuction wsX8_becomes := goodIn_r _ [8, 9, 10, 11, 12, 3, 13, 14, 15, 16, 17, 18, 19, 20, 21, 22, 23, 24, 25, 26, 27, 28, 29, 30, 31] (by decide +kernel) (by decide +kernel)
set_option maxRecDepth 20000 in
theorem gX8_setSuction_X8_becomes : GoodIn wsX8_setSuction (wsV RX8 102 RX8 yX8_becomes wsX8_becomes) := goodIn_app (goodIn_of _ (by decide +kernel)) ggX8_setSuction_X8_becomes
theorem dX8_setSuction_0 : decode cX8_setSuction 0 = .ok (.iload_n 1, 1) := by decide +kernel
theorem dX8_setSuction_1 : decode cX8_setSuction 1 = .ok (.iconst 1, 1) := by decide +kernel
theorem dX8_setSuction_2 : decode cX8_setSuction 2 = .ok (.bipush 20, 2) := by decide +kernel
theorem dX8_setSuction_4 : decode cX8_setSuction 4 = .ok (.invokestatic 61, 3) := by decide +kernel
theorem dX8_setSuction_7 : decode cX8_setSuction 7 = .ok (.ifCond .eq 13, 3) := by decide +kernel
theorem dX8_setSuction_10 : decode cX8_setSuction 10 = .ok (.aload_n 0, 1) := by decide +kernel
theorem dX8_setSuction_11 : decode cX8_setSuction 11 = .ok (.bipush 8, 2) := by decide +kernel
theorem dX8_setSuction_13 : decode cX8_setSuction 13 = .ok (.iload_n 1, 1) := by decide +kernel
theorem dX8_setSuction_14 : decode cX8_setSuction 14 = .ok (.invokevirtual 102, 3) := by decide +kernel
theorem dX8_setSuction_17 : decode cX8_setSuction 17 = .ok (.goto 5, 3) := by decide +kernel
theorem dX8_setSuction_20 : decode cX8_setSuction 20 = .ok (.bipush (-2), 2) := by decide +kernel
theorem dX8_setSuction_22 : decode cX8_setSuction 22 = .ok (.ireturn, 1) := by decide +kernel
set_option maxRecDepth 20000 in
theorem ggX8_set_X8_in : GoodIn wsX8_set wsX8_in := goodIn_r _ [4] (by decide +kernel) (by decide +kernel)
set_option maxRecDepth 20000 in
theorem gX8_set_X8_in : GoodIn wsX8_set (va_wsS RX8 61 yX8_in wsX8_in) := goodIn_app (goodIn_of _ (by decide +kernel)) ggX8_set_X8_in
set_option maxRecDepth 20000 in
theorem ggX8_set_X8_becomes : GoodIn wsX8_set wsX8_becomes := goodIn_r _ [8, 9, 10, 11, 12, 3, 13, 14, 15, 16, 17, 18, 19, 20, 21, 22, 23, 24, 25, 26, 27, 28, 29, 30, 31] (by decide +kernel) (by decide +kernel)
set_option maxRecDepth 20000 in
theorem gX8_set_X8_becomes : GoodIn wsX8_set (wsV RX8 102 RX8 yX8_becomes wsX8_becomes) := goodIn_app (goodIn_of _ (by decide +kernel)) ggX8_set_X8_becomes
theorem dX8_set_0 : decode cX8_set 0 = .ok (.iload_n 1, 1) := by decide +kernel
theorem dX8_set_1 : decode cX8_set 1 = .ok (.iconst 0, 1) := by decide +kernel
theorem dX8_set_2 : decode cX8_set 2 = .ok (.iconst 2, 1) := by decide +kernel
theorem dX8_set_3 : decode cX8_set 3 = .ok (.invokestatic 61, 3) := by decide +kernel
theorem dX8_set_6 : decode cX8_set 6 = .ok (.ifCond .eq 31, 3) := by decide +kernel
theorem dX8_set_9 : decode cX8_set 9 = .ok (.iload_n 2, 1) := by decide +kernel
theorem dX8_set_10 : decode cX8_set 10 = .ok (.iconst 0, 1) := by decide +kernel
theorem dX8_set_11 : decode cX8_set 11 = .ok (.iload_n 1, 1) := by decide +kernel
theorem dX8_set_12 : decode cX8_set 12 = .ok (.ifCond .ne 8, 3) := by decide +kernel
theorem dX8_set_15 : decode cX8_set 15 = .ok (.bipush 10, 2) := by decide +kernel
theorem dX8_set_17 : decode cX8_set 17 = .ok (.goto 14, 3) := by decide +kernel
theorem dX8_set_20 : decode cX8_set 20 = .ok (.iload_n 1, 1) := by decide +kernel
theorem dX8_set_21 : decode cX8_set 21 = .ok (.iconst 1, 1) := by decide +kernel
theorem dX8_set_22 : decode cX8_set 22 = .ok (.if_icmp .ne 7, 3) := by decide +kernel
theorem dX8_set_25 : decode cX8_set 25 = .ok (.iconst 1, 1) := by decide +kernel
theorem dX8_set_26 : decode cX8_set 26 = .ok (.goto 5, 3) := by decide +kernel
theorem dX8_set_29 : decode cX8_set 29 = .ok (.bipush 99, 2) := by decide +kernel
theorem dX8_set_31 : decode cX8_set 31 = .ok (.invokestatic 61, 3) := by decide +kernel
theorem dX8_set_34 : decode cX8_set 34 = .ok (.ifCond .ne 6, 3) := by decide +kernel
theorem dX8_set_37 : decode cX8_set 37 = .ok (.bipush (-2), 2) := by decide +kernel
theorem dX8_set_39 : decode cX8_set 39 = .ok (.ireturn, 1) := by decide +kernel
theorem dX8_set_40 : decode cX8_set 40 = .ok (.aload_n 0, 1) := by decide +kernel
theorem dX8_set_41 : decode cX8_set 41 = .ok (.bipush 9, 2) := by decide +kernel
theorem dX8_set_43 : decode cX8_set 43 = .ok (.iload_n 1, 1) := by decide +kernel
theorem dX8_set_44 : decode cX8_set 44 = .ok (.iadd, 1) := by decide +kernel
theorem dX8_set_45 : decode cX8_set 45 = .ok (.iload_n 2, 1) := by decide +kernel
theorem dX8_set_46 : decode cX8_set 46 = .ok (.invokevirtual 102, 3) := by decide +kernel
theorem dX8_set_49 : decode cX8_set 49 = .ok (.ireturn, 1) := by decide +kernel
theorem dX8_ofPicture_0 : decode cX8_ofPicture 0 = .ok (.aload_n 0, 1) := by decide +kernel
theorem dX8_ofPicture_1 : decode cX8_ofPicture 1 = .ok (.getfield 7, 3) := by decide +kernel
theorem dX8_ofPicture_4 : decode cX8_ofPicture 4 = .ok (.sipush 132, 3) := by decide +kernel
theorem dX8_ofPicture_7 : decode cX8_ofPicture 7 = .ok (.iconst 5, 1) := by decide +kernel
theorem dX8_ofPicture_8 : decode cX8_ofPicture 8 = .ok (.iload_n 1, 1) := by decide +kernel
theorem dX8_ofPicture_9 : decode cX8_ofPicture 9 = .ok (.imul, 1) := by decide +kernel
theorem dX8_ofPicture_10 : decode cX8_ofPicture 10 = .ok (.iadd, 1) := by decide +kernel
theorem dX8_ofPicture_11 : decode cX8_ofPicture 11 = .ok (.iload_n 2, 1) := by decide +kernel
theorem dX8_ofPicture_12 : decode cX8_ofPicture 12 = .ok (.iadd, 1) := by decide +kernel
theorem dX8_ofPicture_13 : decode cX8_ofPicture 13 = .ok (.iaload, 1) := by decide +kernel
theorem dX8_ofPicture_14 : decode cX8_ofPicture 14 = .ok (.ireturn, 1) := by decide +kernel
set_option maxRecDepth 20000 in
theorem ggX8_guess_X8_ofPicture : GoodIn wsX8_guess wsX8_ofPicture := goodIn_r _ [7, 1, 15, 16, 17, 18, 19, 20, 21, 22, 23, 24, 25, 26, 27] (by decide +kernel) (by decide +kernel)
set_option maxRecDepth 20000 in
theorem gX8_guess_X8_ofPicture : GoodIn wsX8_guess (wsV RX8 106 RX8 yX8_ofPicture wsX8_ofPicture) := goodIn_app (goodIn_of _ (by decide +kernel)) ggX8_guess_X8_ofPicture
set_option maxRecDepth 20000 in
theorem ggX8_guess_X8_isPage : GoodIn wsX8_guess wsX8_isPage := goodIn_r _ [11, 1, 12, 13, 6, 14, 15, 16, 17, 18, 19, 20, 21, 22, 23, 24, 25, 26, 27] (by decide +kernel) (by decide +kernel)
set_option maxRecDepth 20000 in
theorem gX8_guess_X8_isPage : GoodIn wsX8_guess (wsV RX8 65 RX8 yX8_isPage wsX8_isPage) := goodIn_app (goodIn_of _ (by decide +kernel)) ggX8_guess_X8_isPage
theorem dX8_guess_0 : decode cX8_guess 0 = .ok (.aload_n 0, 1) := by decide +kernel
theorem dX8_guess_1 : decode cX8_guess 1 = .ok (.iload_n 1, 1) := by decide +kernel
theorem dX8_guess_2 : decode cX8_guess 2 = .ok (.iconst 1, 1) := by decide +kernel
theorem dX8_guess_3 : decode cX8_guess 3 = .ok (.invokevirtual 106, 3) := by decide +kernel
theorem dX8_guess_6 : decode cX8_guess 6 = .ok (.istore_n 2, 1) := by decide +kernel
theorem dX8_guess_7 : decode cX8_guess 7 = .ok (.iload_n 2, 1) := by decide +kernel
theorem dX8_guess_8 : decode cX8_guess 8 = .ok (.aload_n 0, 1) := by decide +kernel
theorem dX8_guess_9 : decode cX8_guess 9 = .ok (.getfield 7, 3) := by decide +kernel
theorem dX8_guess_12 : decode cX8_guess 12 = .ok (.bipush 11, 2) := by decide +kernel
theorem dX8_guess_14 : decode cX8_guess 14 = .ok (.iaload, 1) := by decide +kernel
theorem dX8_guess_15 : decode cX8_guess 15 = .ok (.isub, 1) := by decide +kernel
theorem dX8_guess_16 : decode cX8_guess 16 = .ok (.istore_n 3, 1) := by decide +kernel
theorem dX8_guess_17 : decode cX8_guess 17 = .ok (.iload_n 2, 1) := by decide +kernel
theorem dX8_guess_18 : decode cX8_guess 18 = .ok (.bipush (-5), 2) := by decide +kernel
theorem dX8_guess_20 : decode cX8_guess 20 = .ok (.if_icmp .eq 23, 3) := by decide +kernel
theorem dX8_guess_23 : decode cX8_guess 23 = .ok (.aload_n 0, 1) := by decide +kernel
theorem dX8_guess_24 : decode cX8_guess 24 = .ok (.iload_n 1, 1) := by decide +kernel
theorem dX8_guess_25 : decode cX8_guess 25 = .ok (.iconst 2, 1) := by decide +kernel
theorem dX8_guess_26 : decode cX8_guess 26 = .ok (.invokevirtual 106, 3) := by decide +kernel
theorem dX8_guess_29 : decode cX8_guess 29 = .ok (.iconst 1, 1) := by decide +kernel
theorem dX8_guess_30 : decode cX8_guess 30 = .ok (.if_icmp .ne 13, 3) := by decide +kernel
theorem dX8_guess_33 : decode cX8_guess 33 = .ok (.aload_n 0, 1) := by decide +kernel
theorem dX8_guess_34 : decode cX8_guess 34 = .ok (.iload_n 3, 1) := by decide +kernel
theorem dX8_guess_35 : decode cX8_guess 35 = .ok (.invokevirtual 65, 3) := by decide +kernel
theorem dX8_guess_38 : decode cX8_guess 38 = .ok (.ifCond .eq 5, 3) := by decide +kernel
theorem dX8_guess_41 : decode cX8_guess 41 = .ok (.iload_n 3, 1) := by decide +kernel
theorem dX8_guess_42 : decode cX8_guess 42 = .ok (.ireturn, 1) := by decide +kernel
theorem dX8_guess_43 : decode cX8_guess 43 = .ok (.iload_n 1, 1) := by decide +kernel
theorem dX8_guess_44 : decode cX8_guess 44 = .ok (.ifCond .ne 8, 3) := by decide +kernel
theorem dX8_guess_47 : decode cX8_guess 47 = .ok (.bipush (-5), 2) := by decide +kernel
theorem dX8_guess_49 : decode cX8_guess 49 = .ok (.goto 11, 3) := by decide +kernel
theorem dX8_guess_52 : decode cX8_guess 52 = .ok (.aload_n 0, 1) := by decide +kernel
theorem dX8_guess_53 : decode cX8_guess 53 = .ok (.getfield 26, 3) := by decide +kernel
theorem dX8_guess_56 : decode cX8_guess 56 = .ok (.iload_n 1, 1) := by decide +kernel
theorem dX8_guess_57 : decode cX8_guess 57 = .ok (.iconst 1, 1) := by decide +kernel
theorem dX8_guess_58 : decode cX8_guess 58 = .ok (.isub, 1) := by decide +kernel
theorem dX8_guess_59 : decode cX8_guess 59 = .ok (.iaload, 1) := by decide +kernel
theorem dX8_guess_60 : decode cX8_guess 60 = .ok (.istore 4, 2) := by decide +kernel
theorem dX8_guess_62 : decode cX8_guess 62 = .ok (.iload 4, 2) := by decide +kernel
theorem dX8_guess_64 : decode cX8_guess 64 = .ok (.bipush (-5), 2) := by decide +kernel
theorem dX8_guess_66 : decode cX8_guess 66 = .ok (.if_icmp .eq 21, 3) := by decide +kernel
theorem dX8_guess_69 : decode cX8_guess 69 = .ok (.aload_n 0, 1) := by decide +kernel
theorem dX8_guess_70 : decode cX8_guess 70 = .ok (.iload 4, 2) := by decide +kernel
theorem dX8_guess_72 : decode cX8_guess 72 = .ok (.iconst 1, 1) := by decide +kernel
theorem dX8_guess_73 : decode cX8_guess 73 = .ok (.iadd, 1) := by decide +kernel
theorem dX8_guess_74 : decode cX8_guess 74 = .ok (.invokevirtual 65, 3) := by decide +kernel
theorem dX8_guess_77 : decode cX8_guess 77 = .ok (.ifCond .eq 10, 3) := by decide +kernel
theorem dX8_guess_80 : decode cX8_guess 80 = .ok (.iload 4, 2) := by decide +kernel
theorem dX8_guess_82 : decode cX8_guess 82 = .ok (.iconst 1, 1) := by decide +kernel
theorem dX8_guess_83 : decode cX8_guess 83 = .ok (.iadd, 1) := by decide +kernel
theorem dX8_guess_84 : decode cX8_guess 84 = .ok (.goto 5, 3) := by decide +kernel
theorem dX8_guess_87 : decode cX8_guess 87 = .ok (.bipush (-5), 2) := by decide +kernel
theorem dX8_guess_89 : decode cX8_guess 89 = .ok (.ireturn, 1) := by decide +kernel
set_option maxRecDepth 20000 in
theorem ggX8_guessesAll_X8_guess : GoodIn wsX8_guessesAll wsX8_guess := goodIn_r _ [8, 2, 3, 9, 10, 11, 7, 12, 13, 14, 15, 16, 17, 18, 19, 20, 21, 22, 23, 24, 25, 26, 27, 28, 29, 30, 31, 32] (by decide +kernel) (by decide +kernel)
set_option maxRecDepth 20000 in
theorem gX8_guessesAll_X8_guess : GoodIn wsX8_guessesAll (wsV RX8 109 RX8 yX8_guess wsX8_guess) := goodIn_app (goodIn_of _ (by decide +kernel)) ggX8_guessesAll_X8_guess
set_option maxRecDepth 20000 in
theorem ggX8_guessesAll_X8_ofPicture : GoodIn wsX8_guessesAll wsX8_ofPicture := goodIn_r _ [12, 2, 20, 21, 22, 23, 24, 25, 26, 27, 28, 29, 30, 31, 32] (by decide +kernel) (by decide +kernel)
set_option maxRecDepth 20000 in
theorem gX8_guessesAll_X8_ofPicture : GoodIn wsX8_guessesAll (wsV RX8 106 RX8 yX8_ofPicture wsX8_ofPicture) := goodIn_app (goodIn_of _ (by decide +kernel)) ggX8_guessesAll_X8_ofPicture
theorem dX8_guessesAll_0 : decode cX8_guessesAll 0 = .ok (.iconst 0, 1) := by decide +kernel
theorem dX8_guessesAll_1 : decode cX8_guessesAll 1 = .ok (.istore_n 1, 1) := by decide +kernel
theorem dX8_guessesAll_2 : decode cX8_guessesAll 2 = .ok (.iload_n 1, 1) := by decide +kernel
theorem dX8_guessesAll_3 : decode cX8_guessesAll 3 = .ok (.bipush 60, 2) := by decide +kernel
theorem dX8_guessesAll_5 : decode cX8_guessesAll 5 = .ok (.if_icmp .ge 17, 3) := by decide +kernel
theorem dX8_guessesAll_8 : decode cX8_guessesAll 8 = .ok (.aload_n 0, 1) := by decide +kernel
theorem dX8_guessesAll_9 : decode cX8_guessesAll 9 = .ok (.getfield 29, 3) := by decide +kernel
theorem dX8_guessesAll_12 : decode cX8_guessesAll 12 = .ok (.iload_n 1, 1) := by decide +kernel
theorem dX8_guessesAll_13 : decode cX8_guessesAll 13 = .ok (.bipush (-5), 2) := by decide +kernel
theorem dX8_guessesAll_15 : decode cX8_guessesAll 15 = .ok (.iastore, 1) := by decide +kernel
theorem dX8_guessesAll_16 : decode cX8_guessesAll 16 = .ok (.iinc 1 1, 3) := by decide +kernel
theorem dX8_guessesAll_19 : decode cX8_guessesAll 19 = .ok (.goto (-17), 3) := by decide +kernel
theorem dX8_guessesAll_22 : decode cX8_guessesAll 22 = .ok (.iconst 0, 1) := by decide +kernel
theorem dX8_guessesAll_23 : decode cX8_guessesAll 23 = .ok (.istore_n 1, 1) := by decide +kernel
theorem dX8_guessesAll_24 : decode cX8_guessesAll 24 = .ok (.iload_n 1, 1) := by decide +kernel
theorem dX8_guessesAll_25 : decode cX8_guessesAll 25 = .ok (.aload_n 0, 1) := by decide +kernel
theorem dX8_guessesAll_26 : decode cX8_guessesAll 26 = .ok (.getfield 7, 3) := by decide +kernel
theorem dX8_guessesAll_29 : decode cX8_guessesAll 29 = .ok (.iconst 2, 1) := by decide +kernel
theorem dX8_guessesAll_30 : decode cX8_guessesAll 30 = .ok (.iaload, 1) := by decide +kernel
theorem dX8_guessesAll_31 : decode cX8_guessesAll 31 = .ok (.if_icmp .ge 88, 3) := by decide +kernel
theorem dX8_guessesAll_34 : decode cX8_guessesAll 34 = .ok (.aload_n 0, 1) := by decide +kernel
theorem dX8_guessesAll_35 : decode cX8_guessesAll 35 = .ok (.getfield 26, 3) := by decide +kernel
theorem dX8_guessesAll_38 : decode cX8_guessesAll 38 = .ok (.iload_n 1, 1) := by decide +kernel
theorem dX8_guessesAll_39 : decode cX8_guessesAll 39 = .ok (.aload_n 0, 1) := by decide +kernel
theorem dX8_guessesAll_40 : decode cX8_guessesAll 40 = .ok (.iload_n 1, 1) := by decide +kernel
theorem dX8_guessesAll_41 : decode cX8_guessesAll 41 = .ok (.invokevirtual 109, 3) := by decide +kernel
theorem dX8_guessesAll_44 : decode cX8_guessesAll 44 = .ok (.iastore, 1) := by decide +kernel
theorem dX8_guessesAll_45 : decode cX8_guessesAll 45 = .ok (.aload_n 0, 1) := by decide +kernel
theorem dX8_guessesAll_46 : decode cX8_guessesAll 46 = .ok (.getfield 26, 3) := by decide +kernel
theorem dX8_guessesAll_49 : decode cX8_guessesAll 49 = .ok (.iload_n 1, 1) := by decide +kernel
theorem dX8_guessesAll_50 : decode cX8_guessesAll 50 = .ok (.iaload, 1) := by decide +kernel
theorem dX8_guessesAll_51 : decode cX8_guessesAll 51 = .ok (.istore_n 2, 1) := by decide +kernel
theorem dX8_guessesAll_52 : decode cX8_guessesAll 52 = .ok (.iload_n 2, 1) := by decide +kernel
theorem dX8_guessesAll_53 : decode cX8_guessesAll 53 = .ok (.bipush (-5), 2) := by decide +kernel
theorem dX8_guessesAll_55 : decode cX8_guessesAll 55 = .ok (.if_icmp .eq 58, 3) := by decide +kernel
theorem dX8_guessesAll_58 : decode cX8_guessesAll 58 = .ok (.aload_n 0, 1) := by decide +kernel
theorem dX8_guessesAll_59 : decode cX8_guessesAll 59 = .ok (.getfield 29, 3) := by decide +kernel
theorem dX8_guessesAll_62 : decode cX8_guessesAll 62 = .ok (.iload_n 2, 1) := by decide +kernel
theorem dX8_guessesAll_63 : decode cX8_guessesAll 63 = .ok (.iaload, 1) := by decide +kernel
theorem dX8_guessesAll_64 : decode cX8_guessesAll 64 = .ok (.istore_n 3, 1) := by decide +kernel
theorem dX8_guessesAll_65 : decode cX8_guessesAll 65 = .ok (.iload_n 3, 1) := by decide +kernel
theorem dX8_guessesAll_66 : decode cX8_guessesAll 66 = .ok (.bipush (-5), 2) := by decide +kernel
theorem dX8_guessesAll_68 : decode cX8_guessesAll 68 = .ok (.if_icmp .eq 22, 3) := by decide +kernel
theorem dX8_guessesAll_71 : decode cX8_guessesAll 71 = .ok (.aload_n 0, 1) := by decide +kernel
theorem dX8_guessesAll_72 : decode cX8_guessesAll 72 = .ok (.iload_n 3, 1) := by decide +kernel
theorem dX8_guessesAll_73 : decode cX8_guessesAll 73 = .ok (.iconst 2, 1) := by decide +kernel
theorem dX8_guessesAll_74 : decode cX8_guessesAll 74 = .ok (.invokevirtual 106, 3) := by decide +kernel
theorem dX8_guessesAll_77 : decode cX8_guessesAll 77 = .ok (.ifCond .ne 17, 3) := by decide +kernel
theorem dX8_guessesAll_80 : decode cX8_guessesAll 80 = .ok (.aload_n 0, 1) := by decide +kernel
theorem dX8_guessesAll_81 : decode cX8_guessesAll 81 = .ok (.iload_n 1, 1) := by decide +kernel
theorem dX8_guessesAll_82 : decode cX8_guessesAll 82 = .ok (.iconst 2, 1) := by decide +kernel
theorem dX8_guessesAll_83 : decode cX8_guessesAll 83 = .ok (.invokevirtual 106, 3) := by decide +kernel
theorem dX8_guessesAll_86 : decode cX8_guessesAll 86 = .ok (.iconst 1, 1) := by decide +kernel
theorem dX8_guessesAll_87 : decode cX8_guessesAll 87 = .ok (.if_icmp .ne 7, 3) := by decide +kernel
theorem dX8_guessesAll_90 : decode cX8_guessesAll 90 = .ok (.iconst 1, 1) := by decide +kernel
theorem dX8_guessesAll_91 : decode cX8_guessesAll 91 = .ok (.goto 4, 3) := by decide +kernel
theorem dX8_guessesAll_94 : decode cX8_guessesAll 94 = .ok (.iconst 0, 1) := by decide +kernel
theorem dX8_guessesAll_95 : decode cX8_guessesAll 95 = .ok (.istore 4, 2) := by decide +kernel
theorem dX8_guessesAll_97 : decode cX8_guessesAll 97 = .ok (.aload_n 0, 1) := by decide +kernel
theorem dX8_guessesAll_98 : decode cX8_guessesAll 98 = .ok (.getfield 29, 3) := by decide +kernel
theorem dX8_guessesAll_101 : decode cX8_guessesAll 101 = .ok (.iload_n 2, 1) := by decide +kernel
theorem dX8_guessesAll_102 : decode cX8_guessesAll 102 = .ok (.iload 4, 2) := by decide +kernel
theorem dX8_guessesAll_104 : decode cX8_guessesAll 104 = .ok (.ifCond .eq 7, 3) := by decide +kernel
theorem dX8_guessesAll_107 : decode cX8_guessesAll 107 = .ok (.iload_n 1, 1) := by decide +kernel
theorem dX8_guessesAll_108 : decode cX8_guessesAll 108 = .ok (.goto 4, 3) := by decide +kernel
theorem dX8_guessesAll_111 : decode cX8_guessesAll 111 = .ok (.iload_n 3, 1) := by decide +kernel
theorem dX8_guessesAll_112 : decode cX8_guessesAll 112 = .ok (.iastore, 1) := by decide +kernel
theorem dX8_guessesAll_113 : decode cX8_guessesAll 113 = .ok (.iinc 1 1, 3) := by decide +kernel
theorem dX8_guessesAll_116 : decode cX8_guessesAll 116 = .ok (.goto (-92), 3) := by decide +kernel
theorem dX8_guessesAll_119 : decode cX8_guessesAll 119 = .ok (.return_, 1) := by decide +kernel
set_option maxRecDepth 20000 in
theorem ggX8_isDoubtful_X8_ofPicture : GoodIn wsX8_isDoubtful wsX8_ofPicture := goodIn_r _ [6, 7, 8, 9, 10, 11, 12, 13, 14, 15, 16, 17, 18, 19, 20] (by decide +kernel) (by decide +kernel)
set_option maxRecDepth 20000 in
theorem gX8_isDoubtful_X8_ofPicture : GoodIn wsX8_isDoubtful (wsV RX8 106 RX8 yX8_ofPicture wsX8_ofPicture) := goodIn_app (goodIn_of _ (by decide +kernel)) ggX8_isDoubtful_X8_ofPicture
theorem dX8_isDoubtful_0 : decode cX8_isDoubtful 0 = .ok (.aload_n 0, 1) := by decide +kernel
theorem dX8_isDoubtful_1 : decode cX8_isDoubtful 1 = .ok (.getfield 29, 3) := by decide +kernel
theorem dX8_isDoubtful_4 : decode cX8_isDoubtful 4 = .ok (.iload_n 1, 1) := by decide +kernel
theorem dX8_isDoubtful_5 : decode cX8_isDoubtful 5 = .ok (.iaload, 1) := by decide +kernel
theorem dX8_isDoubtful_6 : decode cX8_isDoubtful 6 = .ok (.bipush (-5), 2) := by decide +kernel
theorem dX8_isDoubtful_8 : decode cX8_isDoubtful 8 = .ok (.if_icmp .eq 22, 3) := by decide +kernel
theorem dX8_isDoubtful_11 : decode cX8_isDoubtful 11 = .ok (.aload_n 0, 1) := by decide +kernel
theorem dX8_isDoubtful_12 : decode cX8_isDoubtful 12 = .ok (.aload_n 0, 1) := by decide +kernel
theorem dX8_isDoubtful_13 : decode cX8_isDoubtful 13 = .ok (.getfield 29, 3) := by decide +kernel
theorem dX8_isDoubtful_16 : decode cX8_isDoubtful 16 = .ok (.iload_n 1, 1) := by decide +kernel
theorem dX8_isDoubtful_17 : decode cX8_isDoubtful 17 = .ok (.iaload, 1) := by decide +kernel
theorem dX8_isDoubtful_18 : decode cX8_isDoubtful 18 = .ok (.iconst 0, 1) := by decide +kernel
theorem dX8_isDoubtful_19 : decode cX8_isDoubtful 19 = .ok (.invokevirtual 106, 3) := by decide +kernel
theorem dX8_isDoubtful_22 : decode cX8_isDoubtful 22 = .ok (.iload_n 1, 1) := by decide +kernel
theorem dX8_isDoubtful_23 : decode cX8_isDoubtful 23 = .ok (.if_icmp .eq 7, 3) := by decide +kernel
theorem dX8_isDoubtful_26 : decode cX8_isDoubtful 26 = .ok (.iconst 1, 1) := by decide +kernel
theorem dX8_isDoubtful_27 : decode cX8_isDoubtful 27 = .ok (.goto 4, 3) := by decide +kernel
theorem dX8_isDoubtful_30 : decode cX8_isDoubtful 30 = .ok (.iconst 0, 1) := by decide +kernel
theorem dX8_isDoubtful_31 : decode cX8_isDoubtful 31 = .ok (.ireturn, 1) := by decide +kernel
theorem dX8_isSpare_0 : decode cX8_isSpare 0 = .ok (.aload_n 0, 1) := by decide +kernel
theorem dX8_isSpare_1 : decode cX8_isSpare 1 = .ok (.getfield 26, 3) := by decide +kernel
theorem dX8_isSpare_4 : decode cX8_isSpare 4 = .ok (.iload_n 1, 1) := by decide +kernel
theorem dX8_isSpare_5 : decode cX8_isSpare 5 = .ok (.iaload, 1) := by decide +kernel
theorem dX8_isSpare_6 : decode cX8_isSpare 6 = .ok (.bipush (-5), 2) := by decide +kernel
theorem dX8_isSpare_8 : decode cX8_isSpare 8 = .ok (.if_icmp .eq 18, 3) := by decide +kernel
theorem dX8_isSpare_11 : decode cX8_isSpare 11 = .ok (.aload_n 0, 1) := by decide +kernel
theorem dX8_isSpare_12 : decode cX8_isSpare 12 = .ok (.getfield 29, 3) := by decide +kernel
theorem dX8_isSpare_15 : decode cX8_isSpare 15 = .ok (.aload_n 0, 1) := by decide +kernel
theorem dX8_isSpare_16 : decode cX8_isSpare 16 = .ok (.getfield 26, 3) := by decide +kernel
theorem dX8_isSpare_19 : decode cX8_isSpare 19 = .ok (.iload_n 1, 1) := by decide +kernel
theorem dX8_isSpare_20 : decode cX8_isSpare 20 = .ok (.iaload, 1) := by decide +kernel
theorem dX8_isSpare_21 : decode cX8_isSpare 21 = .ok (.iaload, 1) := by decide +kernel
theorem dX8_isSpare_22 : decode cX8_isSpare 22 = .ok (.iload_n 1, 1) := by decide +kernel
theorem dX8_isSpare_23 : decode cX8_isSpare 23 = .ok (.if_icmp .eq 7, 3) := by decide +kernel
theorem dX8_isSpare_26 : decode cX8_isSpare 26 = .ok (.iconst 1, 1) := by decide +kernel
theorem dX8_isSpare_27 : decode cX8_isSpare 27 = .ok (.goto 4, 3) := by decide +kernel
theorem dX8_isSpare_30 : decode cX8_isSpare 30 = .ok (.iconst 0, 1) := by decide +kernel
theorem dX8_isSpare_31 : decode cX8_isSpare 31 = .ok (.ireturn, 1) := by decide +kernel
set_option maxRecDepth 20000 in
theorem ggX8_shownBy_X8_ofPicture : GoodIn wsX8_shownBy wsX8_ofPicture := goodIn_r _ [6, 1, 7, 8, 9, 10, 11, 12, 13, 14, 15, 16, 17, 18, 19] (by decide +kernel) (by decide +kernel)
set_option maxRecDepth 20000 in
theorem gX8_shownBy_X8_ofPicture : GoodIn wsX8_shownBy (wsV RX8 106 RX8 yX8_ofPicture wsX8_ofPicture) := goodIn_app (goodIn_of _ (by decide +kernel)) ggX8_shownBy_X8_ofPicture
theorem dX8_shownBy_0 : decode cX8_shownBy 0 = .ok (.iconst 0, 1) := by decide +kernel
theorem dX8_shownBy_1 : decode cX8_shownBy 1 = .ok (.istore_n 2, 1) := by decide +kernel
theorem dX8_shownBy_2 : decode cX8_shownBy 2 = .ok (.iconst 0, 1) := by decide +kernel
theorem dX8_shownBy_3 : decode cX8_shownBy 3 = .ok (.istore_n 3, 1) := by decide +kernel
theorem dX8_shownBy_4 : decode cX8_shownBy 4 = .ok (.iload_n 3, 1) := by decide +kernel
theorem dX8_shownBy_5 : decode cX8_shownBy 5 = .ok (.aload_n 0, 1) := by decide +kernel
theorem dX8_shownBy_6 : decode cX8_shownBy 6 = .ok (.getfield 7, 3) := by decide +kernel
theorem dX8_shownBy_9 : decode cX8_shownBy 9 = .ok (.iconst 2, 1) := by decide +kernel
theorem dX8_shownBy_10 : decode cX8_shownBy 10 = .ok (.iaload, 1) := by decide +kernel
theorem dX8_shownBy_11 : decode cX8_shownBy 11 = .ok (.if_icmp .ge 27, 3) := by decide +kernel
theorem dX8_shownBy_14 : decode cX8_shownBy 14 = .ok (.iload_n 2, 1) := by decide +kernel
theorem dX8_shownBy_15 : decode cX8_shownBy 15 = .ok (.aload_n 0, 1) := by decide +kernel
theorem dX8_shownBy_16 : decode cX8_shownBy 16 = .ok (.iload_n 3, 1) := by decide +kernel
theorem dX8_shownBy_17 : decode cX8_shownBy 17 = .ok (.iconst 0, 1) := by decide +kernel
theorem dX8_shownBy_18 : decode cX8_shownBy 18 = .ok (.invokevirtual 106, 3) := by decide +kernel
theorem dX8_shownBy_21 : decode cX8_shownBy 21 = .ok (.iload_n 1, 1) := by decide +kernel
theorem dX8_shownBy_22 : decode cX8_shownBy 22 = .ok (.if_icmp .ne 7, 3) := by decide +kernel
theorem dX8_shownBy_25 : decode cX8_shownBy 25 = .ok (.iconst 1, 1) := by decide +kernel
theorem dX8_shownBy_26 : decode cX8_shownBy 26 = .ok (.goto 4, 3) := by decide +kernel
theorem dX8_shownBy_29 : decode cX8_shownBy 29 = .ok (.iconst 0, 1) := by decide +kernel
theorem dX8_shownBy_30 : decode cX8_shownBy 30 = .ok (.iadd, 1) := by decide +kernel
theorem dX8_shownBy_31 : decode cX8_shownBy 31 = .ok (.istore_n 2, 1) := by decide +kernel
theorem dX8_shownBy_32 : decode cX8_shownBy 32 = .ok (.iinc 3 1, 3) := by decide +kernel
theorem dX8_shownBy_35 : decode cX8_shownBy 35 = .ok (.goto (-31), 3) := by decide +kernel
theorem dX8_shownBy_38 : decode cX8_shownBy 38 = .ok (.iload_n 2, 1) := by decide +kernel
theorem dX8_shownBy_39 : decode cX8_shownBy 39 = .ok (.ireturn, 1) := by decide +kernel
theorem dX8_type_0 : decode cX8_type 0 = .ok (.aload_n 0, 1) := by decide +kernel
theorem dX8_type_1 : decode cX8_type 1 = .ok (.getfield 113, 3) := by decide +kernel
theorem dX8_type_4 : decode cX8_type 4 = .ok (.bipush 60, 2) := by decide +kernel
theorem dX8_type_6 : decode cX8_type 6 = .ok (.if_icmp .ne 6, 3) := by decide +kernel
theorem dX8_type_9 : decode cX8_type 9 = .ok (.bipush (-3), 2) := by decide +kernel
theorem dX8_type_11 : decode cX8_type 11 = .ok (.ireturn, 1) := by decide +kernel
theorem dX8_type_12 : decode cX8_type 12 = .ok (.aload_n 0, 1) := by decide +kernel
theorem dX8_type_13 : decode cX8_type 13 = .ok (.getfield 22, 3) := by decide +kernel
theorem dX8_type_16 : decode cX8_type 16 = .ok (.aload_n 0, 1) := by decide +kernel
theorem dX8_type_17 : decode cX8_type 17 = .ok (.getfield 113, 3) := by decide +kernel
theorem dX8_type_20 : decode cX8_type 20 = .ok (.iload_n 1, 1) := by decide +kernel
theorem dX8_type_21 : decode cX8_type 21 = .ok (.castore, 1) := by decide +kernel
theorem dX8_type_22 : decode cX8_type 22 = .ok (.aload_n 0, 1) := by decide +kernel
theorem dX8_type_23 : decode cX8_type 23 = .ok (.dup, 1) := by decide +kernel
theorem dX8_type_24 : decode cX8_type 24 = .ok (.getfield 113, 3) := by decide +kernel
theorem dX8_type_27 : decode cX8_type 27 = .ok (.iconst 1, 1) := by decide +kernel
theorem dX8_type_28 : decode cX8_type 28 = .ok (.iadd, 1) := by decide +kernel
theorem dX8_type_29 : decode cX8_type 29 = .ok (.putfield 113, 3) := by decide +kernel
theorem dX8_type_32 : decode cX8_type 32 = .ok (.aload_n 0, 1) := by decide +kernel
theorem dX8_type_33 : decode cX8_type 33 = .ok (.getfield 113, 3) := by decide +kernel
theorem dX8_type_36 : decode cX8_type 36 = .ok (.ireturn, 1) := by decide +kernel
theorem dX8_clearText_0 : decode cX8_clearText 0 = .ok (.aload_n 0, 1) := by decide +kernel
theorem dX8_clearText_1 : decode cX8_clearText 1 = .ok (.getfield 113, 3) := by decide +kernel
theorem dX8_clearText_4 : decode cX8_clearText 4 = .ok (.istore_n 1, 1) := by decide +kernel
theorem dX8_clearText_5 : decode cX8_clearText 5 = .ok (.aload_n 0, 1) := by decide +kernel
theorem dX8_clearText_6 : decode cX8_clearText 6 = .ok (.iconst 0, 1) := by decide +kernel
theorem dX8_clearText_7 : decode cX8_clearText 7 = .ok (.putfield 113, 3) := by decide +kernel
theorem dX8_clearText_10 : decode cX8_clearText 10 = .ok (.iload_n 1, 1) := by decide +kernel
theorem dX8_clearText_11 : decode cX8_clearText 11 = .ok (.ireturn, 1) := by decide +kernel
set_option maxRecDepth 20000 in
theorem ggX8_sees_X8_in : GoodIn wsX8_sees wsX8_in := goodIn_r _ [7] (by decide +kernel) (by decide +kernel)
set_option maxRecDepth 20000 in
theorem gX8_sees_X8_in : GoodIn wsX8_sees (va_wsS RX8 61 yX8_in wsX8_in) := goodIn_app (goodIn_of _ (by decide +kernel)) ggX8_sees_X8_in
theorem dX8_sees_0 : decode cX8_sees 0 = .ok (.aload_n 0, 1) := by decide +kernel
theorem dX8_sees_1 : decode cX8_sees 1 = .ok (.getfield 116, 3) := by decide +kernel
theorem dX8_sees_4 : decode cX8_sees 4 = .ok (.aload_n 0, 1) := by decide +kernel
theorem dX8_sees_5 : decode cX8_sees 5 = .ok (.getfield 113, 3) := by decide +kernel
theorem dX8_sees_8 : decode cX8_sees 8 = .ok (.if_icmp .ge 24, 3) := by decide +kernel
theorem dX8_sees_11 : decode cX8_sees 11 = .ok (.aload_n 0, 1) := by decide +kernel
theorem dX8_sees_12 : decode cX8_sees 12 = .ok (.getfield 22, 3) := by decide +kernel
theorem dX8_sees_15 : decode cX8_sees 15 = .ok (.aload_n 0, 1) := by decide +kernel
theorem dX8_sees_16 : decode cX8_sees 16 = .ok (.getfield 116, 3) := by decide +kernel
theorem dX8_sees_19 : decode cX8_sees 19 = .ok (.caload, 1) := by decide +kernel
theorem dX8_sees_20 : decode cX8_sees 20 = .ok (.iload_n 1, 1) := by decide +kernel
theorem dX8_sees_21 : decode cX8_sees 21 = .ok (.iload_n 2, 1) := by decide +kernel
theorem dX8_sees_22 : decode cX8_sees 22 = .ok (.invokestatic 61, 3) := by decide +kernel
theorem dX8_sees_25 : decode cX8_sees 25 = .ok (.ifCond .eq 7, 3) := by decide +kernel
theorem dX8_sees_28 : decode cX8_sees 28 = .ok (.iconst 1, 1) := by decide +kernel
theorem dX8_sees_29 : decode cX8_sees 29 = .ok (.goto 4, 3) := by decide +kernel
theorem dX8_sees_32 : decode cX8_sees 32 = .ok (.iconst 0, 1) := by decide +kernel
theorem dX8_sees_33 : decode cX8_sees 33 = .ok (.ireturn, 1) := by decide +kernel
set_option maxRecDepth 20000 in
theorem ggX8_takesSign_X8_sees : GoodIn wsX8_takesSign wsX8_sees := goodIn_r _ [6, 1, 7, 8, 9, 10, 5, 11, 12, 13, 14, 15, 16, 17, 18, 19, 20, 21, 22, 23, 24] (by decide +kernel) (by decide +kernel)
set_option maxRecDepth 20000 in
theorem gX8_takesSign_X8_sees : GoodIn wsX8_takesSign (wsV RX8 119 RX8 yX8_sees wsX8_sees) := goodIn_app (goodIn_of _ (by decide +kernel)) ggX8_takesSign_X8_sees
theorem dX8_takesSign_0 : decode cX8_takesSign 0 = .ok (.aload_n 0, 1) := by decide +kernel
theorem dX8_takesSign_1 : decode cX8_takesSign 1 = .ok (.iload_n 1, 1) := by decide +kernel
theorem dX8_takesSign_2 : decode cX8_takesSign 2 = .ok (.iload_n 1, 1) := by decide +kernel
theorem dX8_takesSign_3 : decode cX8_takesSign 3 = .ok (.invokevirtual 119, 3) := by decide +kernel
theorem dX8_takesSign_6 : decode cX8_takesSign 6 = .ok (.istore_n 2, 1) := by decide +kernel
theorem dX8_takesSign_7 : decode cX8_takesSign 7 = .ok (.aload_n 0, 1) := by decide +kernel
theorem dX8_takesSign_8 : decode cX8_takesSign 8 = .ok (.dup, 1) := by decide +kernel
theorem dX8_takesSign_9 : decode cX8_takesSign 9 = .ok (.getfield 116, 3) := by decide +kernel
theorem dX8_takesSign_12 : decode cX8_takesSign 12 = .ok (.iload_n 2, 1) := by decide +kernel
theorem dX8_takesSign_13 : decode cX8_takesSign 13 = .ok (.ifCond .eq 7, 3) := by decide +kernel
theorem dX8_takesSign_16 : decode cX8_takesSign 16 = .ok (.iconst 1, 1) := by decide +kernel
theorem dX8_takesSign_17 : decode cX8_takesSign 17 = .ok (.goto 4, 3) := by decide +kernel
theorem dX8_takesSign_20 : decode cX8_takesSign 20 = .ok (.iconst 0, 1) := by decide +kernel
theorem dX8_takesSign_21 : decode cX8_takesSign 21 = .ok (.iadd, 1) := by decide +kernel
theorem dX8_takesSign_22 : decode cX8_takesSign 22 = .ok (.putfield 116, 3) := by decide +kernel
theorem dX8_takesSign_25 : decode cX8_takesSign 25 = .ok (.iload_n 2, 1) := by decide +kernel
theorem dX8_takesSign_26 : decode cX8_takesSign 26 = .ok (.ireturn, 1) := by decide +kernel
set_option maxRecDepth 20000 in
theorem ggX8_isDigit_X8_sees : GoodIn wsX8_isDigit wsX8_sees := goodIn_r _ [9, 4, 10, 3, 11, 12, 8, 13, 14, 15, 16, 17, 18, 19, 20, 21, 22, 23, 24, 25, 26] (by decide +kernel) (by decide +kernel)
set_option maxRecDepth 20000 in
theorem gX8_isDigit_X8_sees : GoodIn wsX8_isDigit (wsV RX8 119 RX8 yX8_sees wsX8_sees) := goodIn_app (goodIn_of _ (by decide +kernel)) ggX8_isDigit_X8_sees
theorem dX8_isDigit_0 : decode cX8_isDigit 0 = .ok (.aload_n 0, 1) := by decide +kernel
theorem dX8_isDigit_1 : decode cX8_isDigit 1 = .ok (.bipush 49, 2) := by decide +kernel
theorem dX8_isDigit_3 : decode cX8_isDigit 3 = .ok (.bipush 57, 2) := by decide +kernel
theorem dX8_isDigit_5 : decode cX8_isDigit 5 = .ok (.invokevirtual 119, 3) := by decide +kernel
theorem dX8_isDigit_8 : decode cX8_isDigit 8 = .ok (.ifCond .ne 5, 3) := by decide +kernel
theorem dX8_isDigit_11 : decode cX8_isDigit 11 = .ok (.iconst 0, 1) := by decide +kernel
theorem dX8_isDigit_12 : decode cX8_isDigit 12 = .ok (.ireturn, 1) := by decide +kernel
theorem dX8_isDigit_13 : decode cX8_isDigit 13 = .ok (.aload_n 0, 1) := by decide +kernel
theorem dX8_isDigit_14 : decode cX8_isDigit 14 = .ok (.getfield 32, 3) := by decide +kernel
theorem dX8_isDigit_17 : decode cX8_isDigit 17 = .ok (.iconst 3, 1) := by decide +kernel
theorem dX8_isDigit_18 : decode cX8_isDigit 18 = .ok (.aload_n 0, 1) := by decide +kernel
theorem dX8_isDigit_19 : decode cX8_isDigit 19 = .ok (.getfield 54, 3) := by decide +kernel
theorem dX8_isDigit_22 : decode cX8_isDigit 22 = .ok (.imul, 1) := by decide +kernel
theorem dX8_isDigit_23 : decode cX8_isDigit 23 = .ok (.iload_n 1, 1) := by decide +kernel
theorem dX8_isDigit_24 : decode cX8_isDigit 24 = .ok (.iadd, 1) := by decide +kernel
theorem dX8_isDigit_25 : decode cX8_isDigit 25 = .ok (.aload_n 0, 1) := by decide +kernel
theorem dX8_isDigit_26 : decode cX8_isDigit 26 = .ok (.getfield 22, 3) := by decide +kernel
theorem dX8_isDigit_29 : decode cX8_isDigit 29 = .ok (.aload_n 0, 1) := by decide +kernel
theorem dX8_isDigit_30 : decode cX8_isDigit 30 = .ok (.getfield 116, 3) := by decide +kernel
theorem dX8_isDigit_33 : decode cX8_isDigit 33 = .ok (.caload, 1) := by decide +kernel
theorem dX8_isDigit_34 : decode cX8_isDigit 34 = .ok (.bipush 48, 2) := by decide +kernel
theorem dX8_isDigit_36 : decode cX8_isDigit 36 = .ok (.isub, 1) := by decide +kernel
theorem dX8_isDigit_37 : decode cX8_isDigit 37 = .ok (.iastore, 1) := by decide +kernel
theorem dX8_isDigit_38 : decode cX8_isDigit 38 = .ok (.aload_n 0, 1) := by decide +kernel
theorem dX8_isDigit_39 : decode cX8_isDigit 39 = .ok (.dup, 1) := by decide +kernel
theorem dX8_isDigit_40 : decode cX8_isDigit 40 = .ok (.getfield 116, 3) := by decide +kernel
theorem dX8_isDigit_43 : decode cX8_isDigit 43 = .ok (.iconst 1, 1) := by decide +kernel
theorem dX8_isDigit_44 : decode cX8_isDigit 44 = .ok (.iadd, 1) := by decide +kernel
theorem dX8_isDigit_45 : decode cX8_isDigit 45 = .ok (.putfield 116, 3) := by decide +kernel
theorem dX8_isDigit_48 : decode cX8_isDigit 48 = .ok (.iconst 1, 1) := by decide +kernel
theorem dX8_isDigit_49 : decode cX8_isDigit 49 = .ok (.ireturn, 1) := by decide +kernel
set_option maxRecDepth 20000 in
theorem ggX8_isLeafTold_X8_isDigit : GoodIn wsX8_isLeafTold wsX8_isDigit := goodIn_r _ [7, 1, 2, 8, 9, 10, 11, 12, 6, 13, 14, 15, 16, 17, 22, 23, 24, 25, 26, 27, 28, 29, 30, 31, 32, 33, 34] (by decide +kernel) (by decide +kernel)
set_option maxRecDepth 20000 in
theorem gX8_isLeafTold_X8_isDigit : GoodIn wsX8_isLeafTold (wsV RX8 123 RX8 yX8_isDigit wsX8_isDigit) := goodIn_app (goodIn_of _ (by decide +kernel)) ggX8_isLeafTold_X8_isDigit
set_option maxRecDepth 20000 in
theorem ggX8_isLeafTold_X8_takesSign : GoodIn wsX8_isLeafTold wsX8_takesSign := goodIn_r _ [21, 9, 10, 11, 12, 6, 13, 14, 8, 15, 16, 17, 22, 23, 24, 25, 26, 27, 28, 29, 30, 31, 32, 33, 34] (by decide +kernel) (by decide +kernel)
set_option maxRecDepth 20000 in
theorem gX8_isLeafTold_X8_takesSign : GoodIn wsX8_isLeafTold (wsV RX8 126 RX8 yX8_takesSign wsX8_takesSign) := goodIn_app (goodIn_of _ (by decide +kernel)) ggX8_isLeafTold_X8_takesSign
theorem dX8_isLeafTold_0 : decode cX8_isLeafTold 0 = .ok (.aload_n 0, 1) := by decide +kernel
theorem dX8_isLeafTold_1 : decode cX8_isLeafTold 1 = .ok (.getfield 32, 3) := by decide +kernel
theorem dX8_isLeafTold_4 : decode cX8_isLeafTold 4 = .ok (.iconst 3, 1) := by decide +kernel
theorem dX8_isLeafTold_5 : decode cX8_isLeafTold 5 = .ok (.aload_n 0, 1) := by decide +kernel
theorem dX8_isLeafTold_6 : decode cX8_isLeafTold 6 = .ok (.getfield 54, 3) := by decide +kernel
theorem dX8_isLeafTold_9 : decode cX8_isLeafTold 9 = .ok (.imul, 1) := by decide +kernel
theorem dX8_isLeafTold_10 : decode cX8_isLeafTold 10 = .ok (.iconst 1, 1) := by decide +kernel
theorem dX8_isLeafTold_11 : decode cX8_isLeafTold 11 = .ok (.iadd, 1) := by decide +kernel
theorem dX8_isLeafTold_12 : decode cX8_isLeafTold 12 = .ok (.iconst 0, 1) := by decide +kernel
theorem dX8_isLeafTold_13 : decode cX8_isLeafTold 13 = .ok (.iastore, 1) := by decide +kernel
theorem dX8_isLeafTold_14 : decode cX8_isLeafTold 14 = .ok (.aload_n 0, 1) := by decide +kernel
theorem dX8_isLeafTold_15 : decode cX8_isLeafTold 15 = .ok (.iconst 0, 1) := by decide +kernel
theorem dX8_isLeafTold_16 : decode cX8_isLeafTold 16 = .ok (.invokevirtual 123, 3) := by decide +kernel
theorem dX8_isLeafTold_19 : decode cX8_isLeafTold 19 = .ok (.ifCond .eq 20, 3) := by decide +kernel
theorem dX8_isLeafTold_22 : decode cX8_isLeafTold 22 = .ok (.aload_n 0, 1) := by decide +kernel
theorem dX8_isLeafTold_23 : decode cX8_isLeafTold 23 = .ok (.bipush 115, 2) := by decide +kernel
theorem dX8_isLeafTold_25 : decode cX8_isLeafTold 25 = .ok (.invokevirtual 126, 3) := by decide +kernel
theorem dX8_isLeafTold_28 : decode cX8_isLeafTold 28 = .ok (.ifCond .eq 13, 3) := by decide +kernel
theorem dX8_isLeafTold_31 : decode cX8_isLeafTold 31 = .ok (.aload_n 0, 1) := by decide +kernel
theorem dX8_isLeafTold_32 : decode cX8_isLeafTold 32 = .ok (.iconst 1, 1) := by decide +kernel
theorem dX8_isLeafTold_33 : decode cX8_isLeafTold 33 = .ok (.invokevirtual 123, 3) := by decide +kernel
theorem dX8_isLeafTold_36 : decode cX8_isLeafTold 36 = .ok (.ifCond .ne 5, 3) := by decide +kernel
theorem dX8_isLeafTold_39 : decode cX8_isLeafTold 39 = .ok (.iconst 0, 1) := by decide +kernel
theorem dX8_isLeafTold_40 : decode cX8_isLeafTold 40 = .ok (.ireturn, 1) := by decide +kernel
theorem dX8_isLeafTold_41 : decode cX8_isLeafTold 41 = .ok (.aload_n 0, 1) := by decide +kernel
theorem dX8_isLeafTold_42 : decode cX8_isLeafTold 42 = .ok (.getfield 32, 3) := by decide +kernel
theorem dX8_isLeafTold_45 : decode cX8_isLeafTold 45 = .ok (.iconst 3, 1) := by decide +kernel
theorem dX8_isLeafTold_46 : decode cX8_isLeafTold 46 = .ok (.aload_n 0, 1) := by decide +kernel
theorem dX8_isLeafTold_47 : decode cX8_isLeafTold 47 = .ok (.getfield 54, 3) := by decide +kernel
theorem dX8_isLeafTold_50 : decode cX8_isLeafTold 50 = .ok (.imul, 1) := by decide +kernel
theorem dX8_isLeafTold_51 : decode cX8_isLeafTold 51 = .ok (.iconst 2, 1) := by decide +kernel
theorem dX8_isLeafTold_52 : decode cX8_isLeafTold 52 = .ok (.iadd, 1) := by decide +kernel
theorem dX8_isLeafTold_53 : decode cX8_isLeafTold 53 = .ok (.aload_n 0, 1) := by decide +kernel
theorem dX8_isLeafTold_54 : decode cX8_isLeafTold 54 = .ok (.bipush 42, 2) := by decide +kernel
theorem dX8_isLeafTold_56 : decode cX8_isLeafTold 56 = .ok (.invokevirtual 126, 3) := by decide +kernel
theorem dX8_isLeafTold_59 : decode cX8_isLeafTold 59 = .ok (.ifCond .eq 8, 3) := by decide +kernel
theorem dX8_isLeafTold_62 : decode cX8_isLeafTold 62 = .ok (.bipush (-5), 2) := by decide +kernel
theorem dX8_isLeafTold_64 : decode cX8_isLeafTold 64 = .ok (.goto 17, 3) := by decide +kernel
theorem dX8_isLeafTold_67 : decode cX8_isLeafTold 67 = .ok (.aload_n 0, 1) := by decide +kernel
theorem dX8_isLeafTold_68 : decode cX8_isLeafTold 68 = .ok (.bipush 33, 2) := by decide +kernel
theorem dX8_isLeafTold_70 : decode cX8_isLeafTold 70 = .ok (.invokevirtual 126, 3) := by decide +kernel
theorem dX8_isLeafTold_73 : decode cX8_isLeafTold 73 = .ok (.ifCond .eq 7, 3) := by decide +kernel
theorem dX8_isLeafTold_76 : decode cX8_isLeafTold 76 = .ok (.iconst 3, 1) := by decide +kernel
theorem dX8_isLeafTold_77 : decode cX8_isLeafTold 77 = .ok (.goto 4, 3) := by decide +kernel
theorem dX8_isLeafTold_80 : decode cX8_isLeafTold 80 = .ok (.iconst 1, 1) := by decide +kernel
theorem dX8_isLeafTold_81 : decode cX8_isLeafTold 81 = .ok (.iastore, 1) := by decide +kernel
theorem dX8_isLeafTold_82 : decode cX8_isLeafTold 82 = .ok (.iconst 1, 1) := by decide +kernel
theorem dX8_isLeafTold_83 : decode cX8_isLeafTold 83 = .ok (.ireturn, 1) := by decide +kernel
set_option maxRecDepth 20000 in
theorem ggX8_fault_X8_isLeafTold : GoodIn wsX8_fault wsX8_isLeafTold := goodIn_r _ [8, 9, 2, 10, 11, 12, 7, 13, 14, 1, 15, 16, 17, 18, 3, 19, 20, 21, 22, 23, 24, 25, 26, 27, 28, 29, 30, 31, 32, 33, 34, 35, 36, 37, 38] (by decide +kernel) (by decide +kernel)
set_option maxRecDepth 20000 in
theorem gX8_fault_X8_isLeafTold : GoodIn wsX8_fault (wsV RX8 129 RX8 yX8_isLeafTold wsX8_isLeafTold) := goodIn_app (goodIn_of _ (by decide +kernel)) ggX8_fault_X8_isLeafTold
set_option maxRecDepth 20000 in
theorem ggX8_fault_X8_takesSign : GoodIn wsX8_fault wsX8_takesSign := goodIn_r _ [25, 1, 15, 16, 17, 7, 18, 3, 14, 19, 20, 21, 26, 27, 28, 29, 30, 31, 32, 33, 34, 35, 36, 37, 38] (by decide +kernel) (by decide +kernel)
set_option maxRecDepth 20000 in
theorem gX8_fault_X8_takesSign : GoodIn wsX8_fault (wsV RX8 126 RX8 yX8_takesSign wsX8_takesSign) := goodIn_app (goodIn_of _ (by decide +kernel)) ggX8_fault_X8_takesSign
theorem dX8_fault_0 : decode cX8_fault 0 = .ok (.aload_n 0, 1) := by decide +kernel
theorem dX8_fault_1 : decode cX8_fault 1 = .ok (.iconst 0, 1) := by decide +kernel
theorem dX8_fault_2 : decode cX8_fault 2 = .ok (.putfield 116, 3) := by decide +kernel
theorem dX8_fault_5 : decode cX8_fault 5 = .ok (.aload_n 0, 1) := by decide +kernel
theorem dX8_fault_6 : decode cX8_fault 6 = .ok (.iconst 0, 1) := by decide +kernel
theorem dX8_fault_7 : decode cX8_fault 7 = .ok (.putfield 54, 3) := by decide +kernel
theorem dX8_fault_10 : decode cX8_fault 10 = .ok (.iconst 1, 1) := by decide +kernel
theorem dX8_fault_11 : decode cX8_fault 11 = .ok (.istore_n 1, 1) := by decide +kernel
theorem dX8_fault_12 : decode cX8_fault 12 = .ok (.iload_n 1, 1) := by decide +kernel
theorem dX8_fault_13 : decode cX8_fault 13 = .ok (.ifCond .eq 52, 3) := by decide +kernel
theorem dX8_fault_16 : decode cX8_fault 16 = .ok (.aload_n 0, 1) := by decide +kernel
theorem dX8_fault_17 : decode cX8_fault 17 = .ok (.invokevirtual 129, 3) := by decide +kernel
theorem dX8_fault_20 : decode cX8_fault 20 = .ok (.ifCond .ne 8, 3) := by decide +kernel
theorem dX8_fault_23 : decode cX8_fault 23 = .ok (.aload_n 0, 1) := by decide +kernel
theorem dX8_fault_24 : decode cX8_fault 24 = .ok (.getfield 116, 3) := by decide +kernel
theorem dX8_fault_27 : decode cX8_fault 27 = .ok (.ireturn, 1) := by decide +kernel
theorem dX8_fault_28 : decode cX8_fault 28 = .ok (.aload_n 0, 1) := by decide +kernel
theorem dX8_fault_29 : decode cX8_fault 29 = .ok (.dup, 1) := by decide +kernel
theorem dX8_fault_30 : decode cX8_fault 30 = .ok (.getfield 54, 3) := by decide +kernel
theorem dX8_fault_33 : decode cX8_fault 33 = .ok (.iconst 1, 1) := by decide +kernel
theorem dX8_fault_34 : decode cX8_fault 34 = .ok (.iadd, 1) := by decide +kernel
theorem dX8_fault_35 : decode cX8_fault 35 = .ok (.putfield 54, 3) := by decide +kernel
theorem dX8_fault_38 : decode cX8_fault 38 = .ok (.aload_n 0, 1) := by decide +kernel
theorem dX8_fault_39 : decode cX8_fault 39 = .ok (.getfield 54, 3) := by decide +kernel
theorem dX8_fault_42 : decode cX8_fault 42 = .ok (.bipush 30, 2) := by decide +kernel
theorem dX8_fault_44 : decode cX8_fault 44 = .ok (.if_icmp .ge 16, 3) := by decide +kernel
theorem dX8_fault_47 : decode cX8_fault 47 = .ok (.aload_n 0, 1) := by decide +kernel
theorem dX8_fault_48 : decode cX8_fault 48 = .ok (.bipush 44, 2) := by decide +kernel
theorem dX8_fault_50 : decode cX8_fault 50 = .ok (.invokevirtual 126, 3) := by decide +kernel
theorem dX8_fault_53 : decode cX8_fault 53 = .ok (.ifCond .eq 7, 3) := by decide +kernel
theorem dX8_fault_56 : decode cX8_fault 56 = .ok (.iconst 1, 1) := by decide +kernel
theorem dX8_fault_57 : decode cX8_fault 57 = .ok (.goto 4, 3) := by decide +kernel
theorem dX8_fault_60 : decode cX8_fault 60 = .ok (.iconst 0, 1) := by decide +kernel
theorem dX8_fault_61 : decode cX8_fault 61 = .ok (.istore_n 1, 1) := by decide +kernel
theorem dX8_fault_62 : decode cX8_fault 62 = .ok (.goto (-50), 3) := by decide +kernel
theorem dX8_fault_65 : decode cX8_fault 65 = .ok (.aload_n 0, 1) := by decide +kernel
theorem dX8_fault_66 : decode cX8_fault 66 = .ok (.getfield 116, 3) := by decide +kernel
theorem dX8_fault_69 : decode cX8_fault 69 = .ok (.aload_n 0, 1) := by decide +kernel
theorem dX8_fault_70 : decode cX8_fault 70 = .ok (.getfield 113, 3) := by decide +kernel
theorem dX8_fault_73 : decode cX8_fault 73 = .ok (.if_icmp .ne 8, 3) := by decide +kernel
theorem dX8_fault_76 : decode cX8_fault 76 = .ok (.bipush (-5), 2) := by decide +kernel
theorem dX8_fault_78 : decode cX8_fault 78 = .ok (.goto 7, 3) := by decide +kernel
theorem dX8_fault_81 : decode cX8_fault 81 = .ok (.aload_n 0, 1) := by decide +kernel
theorem dX8_fault_82 : decode cX8_fault 82 = .ok (.getfield 116, 3) := by decide +kernel
theorem dX8_fault_85 : decode cX8_fault 85 = .ok (.ireturn, 1) := by decide +kernel
set_option maxRecDepth 20000 in
theorem ggX8_undo_X8_lays : GoodIn wsX8_undo wsX8_lays := goodIn_r _ [7] (by decide +kernel) (by decide +kernel)
set_option maxRecDepth 20000 in
theorem gX8_undo_X8_lays : GoodIn wsX8_undo (va_wsS RX8 39 yX8_lays wsX8_lays) := goodIn_app (goodIn_of _ (by decide +kernel)) ggX8_undo_X8_lays
theorem dX8_undo_0 : decode cX8_undo 0 = .ok (.aload_n 0, 1) := by decide +kernel
theorem dX8_undo_1 : decode cX8_undo 1 = .ok (.getfield 35, 3) := by decide +kernel
theorem dX8_undo_4 : decode cX8_undo 4 = .ok (.ifCond .ne 6, 3) := by decide +kernel
theorem dX8_undo_7 : decode cX8_undo 7 = .ok (.bipush (-5), 2) := by decide +kernel
theorem dX8_undo_9 : decode cX8_undo 9 = .ok (.ireturn, 1) := by decide +kernel
theorem dX8_undo_10 : decode cX8_undo 10 = .ok (.aload_n 0, 1) := by decide +kernel
theorem dX8_undo_11 : decode cX8_undo 11 = .ok (.dup, 1) := by decide +kernel
theorem dX8_undo_12 : decode cX8_undo 12 = .ok (.getfield 35, 3) := by decide +kernel
theorem dX8_undo_15 : decode cX8_undo 15 = .ok (.iconst 1, 1) := by decide +kernel
theorem dX8_undo_16 : decode cX8_undo 16 = .ok (.isub, 1) := by decide +kernel
theorem dX8_undo_17 : decode cX8_undo 17 = .ok (.putfield 35, 3) := by decide +kernel
theorem dX8_undo_20 : decode cX8_undo 20 = .ok (.aload_n 0, 1) := by decide +kernel
theorem dX8_undo_21 : decode cX8_undo 21 = .ok (.getfield 16, 3) := by decide +kernel
theorem dX8_undo_24 : decode cX8_undo 24 = .ok (.sipush 532, 3) := by decide +kernel
theorem dX8_undo_27 : decode cX8_undo 27 = .ok (.aload_n 0, 1) := by decide +kernel
theorem dX8_undo_28 : decode cX8_undo 28 = .ok (.getfield 35, 3) := by decide +kernel
theorem dX8_undo_31 : decode cX8_undo 31 = .ok (.imul, 1) := by decide +kernel
theorem dX8_undo_32 : decode cX8_undo 32 = .ok (.aload_n 0, 1) := by decide +kernel
theorem dX8_undo_33 : decode cX8_undo 33 = .ok (.getfield 7, 3) := by decide +kernel
theorem dX8_undo_36 : decode cX8_undo 36 = .ok (.iconst 0, 1) := by decide +kernel
theorem dX8_undo_37 : decode cX8_undo 37 = .ok (.invokestatic 39, 3) := by decide +kernel
theorem dX8_undo_40 : decode cX8_undo 40 = .ok (.aload_n 0, 1) := by decide +kernel
theorem dX8_undo_41 : decode cX8_undo 41 = .ok (.getfield 35, 3) := by decide +kernel
theorem dX8_undo_44 : decode cX8_undo 44 = .ok (.ireturn, 1) := by decide +kernel
set_option maxRecDepth 20000 in
theorem ggX8_keep_X8_lays : GoodIn wsX8_keep wsX8_lays := goodIn_r _ [7] (by decide +kernel) (by decide +kernel)
set_option maxRecDepth 20000 in
theorem gX8_keep_X8_lays : GoodIn wsX8_keep (va_wsS RX8 39 yX8_lays wsX8_lays) := goodIn_app (goodIn_of _ (by decide +kernel)) ggX8_keep_X8_lays
theorem dX8_keep_0 : decode cX8_keep 0 = .ok (.aload_n 0, 1) := by decide +kernel
theorem dX8_keep_1 : decode cX8_keep 1 = .ok (.getfield 7, 3) := by decide +kernel
theorem dX8_keep_4 : decode cX8_keep 4 = .ok (.iconst 0, 1) := by decide +kernel
theorem dX8_keep_5 : decode cX8_keep 5 = .ok (.aload_n 0, 1) := by decide +kernel
theorem dX8_keep_6 : decode cX8_keep 6 = .ok (.getfield 19, 3) := by decide +kernel
theorem dX8_keep_9 : decode cX8_keep 9 = .ok (.iconst 0, 1) := by decide +kernel
theorem dX8_keep_10 : decode cX8_keep 10 = .ok (.invokestatic 39, 3) := by decide +kernel
theorem dX8_keep_13 : decode cX8_keep 13 = .ok (.aload_n 0, 1) := by decide +kernel
theorem dX8_keep_14 : decode cX8_keep 14 = .ok (.iconst 1, 1) := by decide +kernel
theorem dX8_keep_15 : decode cX8_keep 15 = .ok (.putfield 132, 3) := by decide +kernel
theorem dX8_keep_18 : decode cX8_keep 18 = .ok (.aload_n 0, 1) := by decide +kernel
theorem dX8_keep_19 : decode cX8_keep 19 = .ok (.getfield 7, 3) := by decide +kernel
theorem dX8_keep_22 : decode cX8_keep 22 = .ok (.iconst 2, 1) := by decide +kernel
theorem dX8_keep_23 : decode cX8_keep 23 = .ok (.iaload, 1) := by decide +kernel
theorem dX8_keep_24 : decode cX8_keep 24 = .ok (.ireturn, 1) := by decide +kernel
set_option maxRecDepth 20000 in
theorem ggX8_restore_X8_records : GoodIn wsX8_restore wsX8_records := goodIn_r _ [8, 9, 10, 11, 12, 7, 13, 14, 15, 16, 17, 18, 19, 20, 21, 22, 23, 24, 25, 26] (by decide +kernel) (by decide +kernel)
set_option maxRecDepth 20000 in
theorem gX8_restore_X8_records : GoodIn wsX8_restore (wsV RX8 47 RX8 yX8_records wsX8_records) := goodIn_app (goodIn_of _ (by decide +kernel)) ggX8_restore_X8_records
set_option maxRecDepth 20000 in
theorem ggX8_restore_X8_lays : GoodIn wsX8_restore wsX8_lays := goodIn_r _ [13] (by decide +kernel) (by decide +kernel)
set_option maxRecDepth 20000 in
theorem gX8_restore_X8_lays : GoodIn wsX8_restore (va_wsS RX8 39 yX8_lays wsX8_lays) := goodIn_app (goodIn_of _ (by decide +kernel)) ggX8_restore_X8_lays
theorem dX8_restore_0 : decode cX8_restore 0 = .ok (.aload_n 0, 1) := by decide +kernel
theorem dX8_restore_1 : decode cX8_restore 1 = .ok (.getfield 132, 3) := by decide +kernel
theorem dX8_restore_4 : decode cX8_restore 4 = .ok (.ifCond .ne 6, 3) := by decide +kernel
theorem dX8_restore_7 : decode cX8_restore 7 = .ok (.bipush (-5), 2) := by decide +kernel
theorem dX8_restore_9 : decode cX8_restore 9 = .ok (.ireturn, 1) := by decide +kernel
theorem dX8_restore_10 : decode cX8_restore 10 = .ok (.aload_n 0, 1) := by decide +kernel
theorem dX8_restore_11 : decode cX8_restore 11 = .ok (.aload_n 0, 1) := by decide +kernel
theorem dX8_restore_12 : decode cX8_restore 12 = .ok (.getfield 7, 3) := by decide +kernel
theorem dX8_restore_15 : decode cX8_restore 15 = .ok (.invokevirtual 47, 3) := by decide +kernel
theorem dX8_restore_18 : decode cX8_restore 18 = .ok (.aload_n 0, 1) := by decide +kernel
theorem dX8_restore_19 : decode cX8_restore 19 = .ok (.getfield 19, 3) := by decide +kernel
theorem dX8_restore_22 : decode cX8_restore 22 = .ok (.iconst 0, 1) := by decide +kernel
theorem dX8_restore_23 : decode cX8_restore 23 = .ok (.aload_n 0, 1) := by decide +kernel
theorem dX8_restore_24 : decode cX8_restore 24 = .ok (.getfield 7, 3) := by decide +kernel
theorem dX8_restore_27 : decode cX8_restore 27 = .ok (.iconst 0, 1) := by decide +kernel
theorem dX8_restore_28 : decode cX8_restore 28 = .ok (.invokestatic 39, 3) := by decide +kernel
theorem dX8_restore_31 : decode cX8_restore 31 = .ok (.aload_n 0, 1) := by decide +kernel
theorem dX8_restore_32 : decode cX8_restore 32 = .ok (.getfield 7, 3) := by decide +kernel
theorem dX8_restore_35 : decode cX8_restore 35 = .ok (.iconst 2, 1) := by decide +kernel
theorem dX8_restore_36 : decode cX8_restore 36 = .ok (.iaload, 1) := by decide +kernel
theorem dX8_restore_37 : decode cX8_restore 37 = .ok (.ireturn, 1) := by decide +kernel
set_option maxRecDepth 20000 in
theorem ggX8_leaf_X8_in : GoodIn wsX8_leaf wsX8_in := goodIn_r _ [5] (by decide +kernel) (by decide +kernel)
set_option maxRecDepth 20000 in
theorem gX8_leaf_X8_in : GoodIn wsX8_leaf (va_wsS RX8 61 yX8_in wsX8_in) := goodIn_app (goodIn_of _ (by decide +kernel)) ggX8_leaf_X8_in
theorem dX8_leaf_0 : decode cX8_leaf 0 = .ok (.iload_n 1, 1) := by decide +kernel
theorem dX8_leaf_1 : decode cX8_leaf 1 = .ok (.iconst 0, 1) := by decide +kernel
theorem dX8_leaf_2 : decode cX8_leaf 2 = .ok (.aload_n 0, 1) := by decide +kernel
theorem dX8_leaf_3 : decode cX8_leaf 3 = .ok (.getfield 7, 3) := by decide +kernel
theorem dX8_leaf_6 : decode cX8_leaf 6 = .ok (.iconst 0, 1) := by decide +kernel
theorem dX8_leaf_7 : decode cX8_leaf 7 = .ok (.iaload, 1) := by decide +kernel
theorem dX8_leaf_8 : decode cX8_leaf 8 = .ok (.iconst 1, 1) := by decide +kernel
theorem dX8_leaf_9 : decode cX8_leaf 9 = .ok (.isub, 1) := by decide +kernel
theorem dX8_leaf_10 : decode cX8_leaf 10 = .ok (.invokestatic 61, 3) := by decide +kernel
theorem dX8_leaf_13 : decode cX8_leaf 13 = .ok (.ifCond .ne 5, 3) := by decide +kernel
theorem dX8_leaf_16 : decode cX8_leaf 16 = .ok (.iconst (-1), 1) := by decide +kernel
theorem dX8_leaf_17 : decode cX8_leaf 17 = .ok (.ireturn, 1) := by decide +kernel
theorem dX8_leaf_18 : decode cX8_leaf 18 = .ok (.iload_n 2, 1) := by decide +kernel
theorem dX8_leaf_19 : decode cX8_leaf 19 = .ok (.tableswitch 61 0 2 #[25, 35, 45], 25) := by decide +kernel
theorem dX8_leaf_44 : decode cX8_leaf 44 = .ok (.aload_n 0, 1) := by decide +kernel
theorem dX8_leaf_45 : decode cX8_leaf 45 = .ok (.getfield 7, 3) := by decide +kernel
theorem dX8_leaf_48 : decode cX8_leaf 48 = .ok (.bipush 12, 2) := by decide +kernel
theorem dX8_leaf_50 : decode cX8_leaf 50 = .ok (.iload_n 1, 1) := by decide +kernel
theorem dX8_leaf_51 : decode cX8_leaf 51 = .ok (.iadd, 1) := by decide +kernel
theorem dX8_leaf_52 : decode cX8_leaf 52 = .ok (.iaload, 1) := by decide +kernel
theorem dX8_leaf_53 : decode cX8_leaf 53 = .ok (.ireturn, 1) := by decide +kernel
theorem dX8_leaf_54 : decode cX8_leaf 54 = .ok (.aload_n 0, 1) := by decide +kernel
theorem dX8_leaf_55 : decode cX8_leaf 55 = .ok (.getfield 7, 3) := by decide +kernel
theorem dX8_leaf_58 : decode cX8_leaf 58 = .ok (.bipush 42, 2) := by decide +kernel
theorem dX8_leaf_60 : decode cX8_leaf 60 = .ok (.iload_n 1, 1) := by decide +kernel
theorem dX8_leaf_61 : decode cX8_leaf 61 = .ok (.iadd, 1) := by decide +kernel
theorem dX8_leaf_62 : decode cX8_leaf 62 = .ok (.iaload, 1) := by decide +kernel
theorem dX8_leaf_63 : decode cX8_leaf 63 = .ok (.ireturn, 1) := by decide +kernel
theorem dX8_leaf_64 : decode cX8_leaf 64 = .ok (.iload_n 1, 1) := by decide +kernel
theorem dX8_leaf_65 : decode cX8_leaf 65 = .ok (.aload_n 0, 1) := by decide +kernel
theorem dX8_leaf_66 : decode cX8_leaf 66 = .ok (.getfield 7, 3) := by decide +kernel
theorem dX8_leaf_69 : decode cX8_leaf 69 = .ok (.iconst 1, 1) := by decide +kernel
theorem dX8_leaf_70 : decode cX8_leaf 70 = .ok (.iaload, 1) := by decide +kernel
theorem dX8_leaf_71 : decode cX8_leaf 71 = .ok (.if_icmp .ge 7, 3) := by decide +kernel
theorem dX8_leaf_74 : decode cX8_leaf 74 = .ok (.iconst 1, 1) := by decide +kernel
theorem dX8_leaf_75 : decode cX8_leaf 75 = .ok (.goto 4, 3) := by decide +kernel
theorem dX8_leaf_78 : decode cX8_leaf 78 = .ok (.iconst 0, 1) := by decide +kernel
theorem dX8_leaf_79 : decode cX8_leaf 79 = .ok (.ireturn, 1) := by decide +kernel
theorem dX8_leaf_80 : decode cX8_leaf 80 = .ok (.bipush (-2), 2) := by decide +kernel
theorem dX8_leaf_82 : decode cX8_leaf 82 = .ok (.ireturn, 1) := by decide +kernel
set_option maxRecDepth 20000 in
theorem ggX8_page_X8_isPage : GoodIn wsX8_page wsX8_isPage := goodIn_r _ [7, 1, 8, 9, 6, 10, 35, 36, 37, 38, 39, 40, 41, 42, 43, 44, 45, 46, 47] (by decide +kernel) (by decide +kernel)
set_option maxRecDepth 20000 in
theorem gX8_page_X8_isPage : GoodIn wsX8_page (wsV RX8 65 RX8 yX8_isPage wsX8_isPage) := goodIn_app (goodIn_of _ (by decide +kernel)) ggX8_page_X8_isPage
set_option maxRecDepth 20000 in
theorem ggX8_page_X8_guessesAll : GoodIn wsX8_page wsX8_guessesAll := goodIn_r _ [14, 2, 1, 15, 16, 17, 18, 6, 19, 20, 21, 22, 23, 3, 4, 5, 7, 8, 9, 10, 35, 36, 37, 38, 39, 40, 41, 42, 43, 44, 45, 46, 47] (by decide +kernel) (by decide +kernel)
set_option maxRecDepth 20000 in
theorem gX8_page_X8_guessesAll : GoodIn wsX8_page (wsV RX8 136 RX8 yX8_guessesAll wsX8_guessesAll) := goodIn_app (goodIn_of _ (by decide +kernel)) ggX8_page_X8_guessesAll
set_option maxRecDepth 20000 in
theorem ggX8_page_X8_shownBy : GoodIn wsX8_page wsX8_shownBy := goodIn_r _ [27, 1, 20, 21, 22, 6, 23, 35, 36, 37, 38, 39, 40, 41, 42, 43, 44, 45, 46, 47] (by decide +kernel) (by decide +kernel)
set_option maxRecDepth 20000 in
theorem gX8_page_X8_shownBy : GoodIn wsX8_page (wsV RX8 139 RX8 yX8_shownBy wsX8_shownBy) := goodIn_app (goodIn_of _ (by decide +kernel)) ggX8_page_X8_shownBy
set_option maxRecDepth 20000 in
theorem ggX8_page_X8_isDoubtful : GoodIn wsX8_page wsX8_isDoubtful := goodIn_r _ [31, 2, 20, 21, 22, 6, 23, 1, 35, 36, 37, 38, 39, 40, 41, 42, 43, 44, 45, 46, 47] (by decide +kernel) (by decide +kernel)
set_option maxRecDepth 20000 in
theorem gX8_page_X8_isDoubtful : GoodIn wsX8_page (wsV RX8 142 RX8 yX8_isDoubtful wsX8_isDoubtful) := goodIn_app (goodIn_of _ (by decide +kernel)) ggX8_page_X8_isDoubtful
set_option maxRecDepth 20000 in
theorem ggX8_page_X8_isGood : GoodIn wsX8_page wsX8_isGood := goodIn_r _ [34] (by decide +kernel) (by decide +kernel)
set_option maxRecDepth 20000 in
theorem gX8_page_X8_isGood : GoodIn wsX8_page (va_wsS RX8 92 yX8_isGood wsX8_isGood) := goodIn_app (goodIn_of _ (by decide +kernel)) ggX8_page_X8_isGood
theorem dX8_page_0 : decode cX8_page 0 = .ok (.aload_n 0, 1) := by decide +kernel
theorem dX8_page_1 : decode cX8_page 1 = .ok (.iload_n 1, 1) := by decide +kernel
theorem dX8_page_2 : decode cX8_page 2 = .ok (.invokevirtual 65, 3) := by decide +kernel
theorem dX8_page_5 : decode cX8_page 5 = .ok (.ifCond .ne 5, 3) := by decide +kernel
theorem dX8_page_8 : decode cX8_page 8 = .ok (.iconst (-1), 1) := by decide +kernel
theorem dX8_page_9 : decode cX8_page 9 = .ok (.ireturn, 1) := by decide +kernel
theorem dX8_page_10 : decode cX8_page 10 = .ok (.aload_n 0, 1) := by decide +kernel
theorem dX8_page_11 : decode cX8_page 11 = .ok (.invokevirtual 136, 3) := by decide +kernel
theorem dX8_page_14 : decode cX8_page 14 = .ok (.iload_n 2, 1) := by decide +kernel
theorem dX8_page_15 : decode cX8_page 15 = .ok (.tableswitch 110 0 4 #[33, 43, 50, 56, 70], 33) := by decide +kernel
theorem dX8_page_48 : decode cX8_page 48 = .ok (.aload_n 0, 1) := by decide +kernel
theorem dX8_page_49 : decode cX8_page 49 = .ok (.getfield 7, 3) := by decide +kernel
theorem dX8_page_52 : decode cX8_page 52 = .ok (.bipush 72, 2) := by decide +kernel
theorem dX8_page_54 : decode cX8_page 54 = .ok (.iload_n 1, 1) := by decide +kernel
theorem dX8_page_55 : decode cX8_page 55 = .ok (.iadd, 1) := by decide +kernel
theorem dX8_page_56 : decode cX8_page 56 = .ok (.iaload, 1) := by decide +kernel
theorem dX8_page_57 : decode cX8_page 57 = .ok (.ireturn, 1) := by decide +kernel
theorem dX8_page_58 : decode cX8_page 58 = .ok (.aload_n 0, 1) := by decide +kernel
theorem dX8_page_59 : decode cX8_page 59 = .ok (.getfield 29, 3) := by decide +kernel
theorem dX8_page_62 : decode cX8_page 62 = .ok (.iload_n 1, 1) := by decide +kernel
theorem dX8_page_63 : decode cX8_page 63 = .ok (.iaload, 1) := by decide +kernel
theorem dX8_page_64 : decode cX8_page 64 = .ok (.ireturn, 1) := by decide +kernel
theorem dX8_page_65 : decode cX8_page 65 = .ok (.aload_n 0, 1) := by decide +kernel
theorem dX8_page_66 : decode cX8_page 66 = .ok (.iload_n 1, 1) := by decide +kernel
theorem dX8_page_67 : decode cX8_page 67 = .ok (.invokevirtual 139, 3) := by decide +kernel
theorem dX8_page_70 : decode cX8_page 70 = .ok (.ireturn, 1) := by decide +kernel
theorem dX8_page_71 : decode cX8_page 71 = .ok (.aload_n 0, 1) := by decide +kernel
theorem dX8_page_72 : decode cX8_page 72 = .ok (.iload_n 1, 1) := by decide +kernel
theorem dX8_page_73 : decode cX8_page 73 = .ok (.invokevirtual 142, 3) := by decide +kernel
theorem dX8_page_76 : decode cX8_page 76 = .ok (.ifCond .eq 7, 3) := by decide +kernel
theorem dX8_page_79 : decode cX8_page 79 = .ok (.iconst 1, 1) := by decide +kernel
theorem dX8_page_80 : decode cX8_page 80 = .ok (.goto 4, 3) := by decide +kernel
theorem dX8_page_83 : decode cX8_page 83 = .ok (.iconst 0, 1) := by decide +kernel
theorem dX8_page_84 : decode cX8_page 84 = .ok (.ireturn, 1) := by decide +kernel
theorem dX8_page_85 : decode cX8_page 85 = .ok (.aload_n 0, 1) := by decide +kernel
theorem dX8_page_86 : decode cX8_page 86 = .ok (.getfield 7, 3) := by decide +kernel
theorem dX8_page_89 : decode cX8_page 89 = .ok (.iload_n 1, 1) := by decide +kernel
theorem dX8_page_90 : decode cX8_page 90 = .ok (.iconst 2, 1) := by decide +kernel
theorem dX8_page_91 : decode cX8_page 91 = .ok (.irem, 1) := by decide +kernel
theorem dX8_page_92 : decode cX8_page 92 = .ok (.ifCond .ne 16, 3) := by decide +kernel
theorem dX8_page_95 : decode cX8_page 95 = .ok (.aload_n 0, 1) := by decide +kernel
theorem dX8_page_96 : decode cX8_page 96 = .ok (.getfield 7, 3) := by decide +kernel
theorem dX8_page_99 : decode cX8_page 99 = .ok (.iconst 0, 1) := by decide +kernel
theorem dX8_page_100 : decode cX8_page 100 = .ok (.iaload, 1) := by decide +kernel
theorem dX8_page_101 : decode cX8_page 101 = .ok (.iload_n 1, 1) := by decide +kernel
theorem dX8_page_102 : decode cX8_page 102 = .ok (.iconst 2, 1) := by decide +kernel
theorem dX8_page_103 : decode cX8_page 103 = .ok (.idiv, 1) := by decide +kernel
theorem dX8_page_104 : decode cX8_page 104 = .ok (.isub, 1) := by decide +kernel
theorem dX8_page_105 : decode cX8_page 105 = .ok (.goto 8, 3) := by decide +kernel
theorem dX8_page_108 : decode cX8_page 108 = .ok (.iload_n 1, 1) := by decide +kernel
theorem dX8_page_109 : decode cX8_page 109 = .ok (.iconst 2, 1) := by decide +kernel
theorem dX8_page_110 : decode cX8_page 110 = .ok (.idiv, 1) := by decide +kernel
theorem dX8_page_111 : decode cX8_page 111 = .ok (.iconst 1, 1) := by decide +kernel
theorem dX8_page_112 : decode cX8_page 112 = .ok (.iadd, 1) := by decide +kernel
theorem dX8_page_113 : decode cX8_page 113 = .ok (.invokestatic 92, 3) := by decide +kernel
theorem dX8_page_116 : decode cX8_page 116 = .ok (.ifCond .eq 7, 3) := by decide +kernel
theorem dX8_page_119 : decode cX8_page 119 = .ok (.iconst 1, 1) := by decide +kernel
theorem dX8_page_120 : decode cX8_page 120 = .ok (.goto 4, 3) := by decide +kernel
theorem dX8_page_123 : decode cX8_page 123 = .ok (.iconst 0, 1) := by decide +kernel
theorem dX8_page_124 : decode cX8_page 124 = .ok (.ireturn, 1) := by decide +kernel
theorem dX8_page_125 : decode cX8_page 125 = .ok (.bipush (-2), 2) := by decide +kernel
theorem dX8_page_127 : decode cX8_page 127 = .ok (.ireturn, 1) := by decide +kernel
set_option maxRecDepth 20000 in
theorem ggX8_picture_X8_isPicture : GoodIn wsX8_picture wsX8_isPicture := goodIn_r _ [6, 7, 8, 9, 5, 10, 32, 33, 34, 35, 36, 37, 38, 39, 40, 41, 42, 43, 44] (by decide +kernel) (by decide +kernel)
set_option maxRecDepth 20000 in
theorem gX8_picture_X8_isPicture : GoodIn wsX8_picture (wsV RX8 99 RX8 yX8_isPicture wsX8_isPicture) := goodIn_app (goodIn_of _ (by decide +kernel)) ggX8_picture_X8_isPicture
set_option maxRecDepth 20000 in
theorem ggX8_picture_X8_guessesAll : GoodIn wsX8_picture wsX8_guessesAll := goodIn_r _ [14, 15, 7, 1, 16, 17, 18, 5, 19, 20, 21, 22, 23, 24, 25, 26, 27, 8, 9, 10, 32, 33, 34, 35, 36, 37, 38, 39, 40, 41, 42, 43, 44] (by decide +kernel) (by decide +kernel)
set_option maxRecDepth 20000 in
theorem gX8_picture_X8_guessesAll : GoodIn wsX8_picture (wsV RX8 136 RX8 yX8_guessesAll wsX8_guessesAll) := goodIn_app (goodIn_of _ (by decide +kernel)) ggX8_picture_X8_guessesAll
set_option maxRecDepth 20000 in
theorem ggX8_picture_X8_ofPicture : GoodIn wsX8_picture wsX8_ofPicture := goodIn_r _ [23, 7, 32, 33, 34, 35, 36, 37, 38, 39, 40, 41, 42, 43, 44] (by decide +kernel) (by decide +kernel)
set_option maxRecDepth 20000 in
theorem gX8_picture_X8_ofPicture : GoodIn wsX8_picture (wsV RX8 106 RX8 yX8_ofPicture wsX8_ofPicture) := goodIn_app (goodIn_of _ (by decide +kernel)) ggX8_picture_X8_ofPicture
set_option maxRecDepth 20000 in
theorem ggX8_picture_X8_isSpare : GoodIn wsX8_picture wsX8_isSpare := goodIn_r _ [31, 1, 15, 32, 33, 34, 35, 36, 37, 38, 39, 40, 41, 42, 43, 44] (by decide +kernel) (by decide +kernel)
set_option maxRecDepth 20000 in
theorem gX8_picture_X8_isSpare : GoodIn wsX8_picture (wsV RX8 145 RX8 yX8_isSpare wsX8_isSpare) := goodIn_app (goodIn_of _ (by decide +kernel)) ggX8_picture_X8_isSpare
theorem dX8_picture_0 : decode cX8_picture 0 = .ok (.aload_n 0, 1) := by decide +kernel
theorem dX8_picture_1 : decode cX8_picture 1 = .ok (.iload_n 1, 1) := by decide +kernel
theorem dX8_picture_2 : decode cX8_picture 2 = .ok (.invokevirtual 99, 3) := by decide +kernel
theorem dX8_picture_5 : decode cX8_picture 5 = .ok (.ifCond .ne 5, 3) := by decide +kernel
theorem dX8_picture_8 : decode cX8_picture 8 = .ok (.iconst (-1), 1) := by decide +kernel
theorem dX8_picture_9 : decode cX8_picture 9 = .ok (.ireturn, 1) := by decide +kernel
theorem dX8_picture_10 : decode cX8_picture 10 = .ok (.aload_n 0, 1) := by decide +kernel
theorem dX8_picture_11 : decode cX8_picture 11 = .ok (.invokevirtual 136, 3) := by decide +kernel
theorem dX8_picture_14 : decode cX8_picture 14 = .ok (.iload_n 2, 1) := by decide +kernel
theorem dX8_picture_15 : decode cX8_picture 15 = .ok (.tableswitch 83 0 6 #[41, 41, 41, 48, 55, 69, 76], 41) := by decide +kernel
theorem dX8_picture_56 : decode cX8_picture 56 = .ok (.aload_n 0, 1) := by decide +kernel
theorem dX8_picture_57 : decode cX8_picture 57 = .ok (.iload_n 1, 1) := by decide +kernel
theorem dX8_picture_58 : decode cX8_picture 58 = .ok (.iload_n 2, 1) := by decide +kernel
theorem dX8_picture_59 : decode cX8_picture 59 = .ok (.invokevirtual 106, 3) := by decide +kernel
theorem dX8_picture_62 : decode cX8_picture 62 = .ok (.ireturn, 1) := by decide +kernel
theorem dX8_picture_63 : decode cX8_picture 63 = .ok (.aload_n 0, 1) := by decide +kernel
theorem dX8_picture_64 : decode cX8_picture 64 = .ok (.getfield 26, 3) := by decide +kernel
theorem dX8_picture_67 : decode cX8_picture 67 = .ok (.iload_n 1, 1) := by decide +kernel
theorem dX8_picture_68 : decode cX8_picture 68 = .ok (.iaload, 1) := by decide +kernel
theorem dX8_picture_69 : decode cX8_picture 69 = .ok (.ireturn, 1) := by decide +kernel
theorem dX8_picture_70 : decode cX8_picture 70 = .ok (.aload_n 0, 1) := by decide +kernel
theorem dX8_picture_71 : decode cX8_picture 71 = .ok (.iload_n 1, 1) := by decide +kernel
theorem dX8_picture_72 : decode cX8_picture 72 = .ok (.invokevirtual 145, 3) := by decide +kernel
theorem dX8_picture_75 : decode cX8_picture 75 = .ok (.ifCond .eq 7, 3) := by decide +kernel
theorem dX8_picture_78 : decode cX8_picture 78 = .ok (.iconst 1, 1) := by decide +kernel
theorem dX8_picture_79 : decode cX8_picture 79 = .ok (.goto 4, 3) := by decide +kernel
theorem dX8_picture_82 : decode cX8_picture 82 = .ok (.iconst 0, 1) := by decide +kernel
theorem dX8_picture_83 : decode cX8_picture 83 = .ok (.ireturn, 1) := by decide +kernel
theorem dX8_picture_84 : decode cX8_picture 84 = .ok (.aload_n 0, 1) := by decide +kernel
theorem dX8_picture_85 : decode cX8_picture 85 = .ok (.iload_n 1, 1) := by decide +kernel
theorem dX8_picture_86 : decode cX8_picture 86 = .ok (.iconst 4, 1) := by decide +kernel
theorem dX8_picture_87 : decode cX8_picture 87 = .ok (.invokevirtual 106, 3) := by decide +kernel
theorem dX8_picture_90 : decode cX8_picture 90 = .ok (.ireturn, 1) := by decide +kernel
theorem dX8_picture_91 : decode cX8_picture 91 = .ok (.aload_n 0, 1) := by decide +kernel
theorem dX8_picture_92 : decode cX8_picture 92 = .ok (.iload_n 1, 1) := by decide +kernel
theorem dX8_picture_93 : decode cX8_picture 93 = .ok (.iconst 3, 1) := by decide +kernel
theorem dX8_picture_94 : decode cX8_picture 94 = .ok (.invokevirtual 106, 3) := by decide +kernel
theorem dX8_picture_97 : decode cX8_picture 97 = .ok (.ireturn, 1) := by decide +kernel
theorem dX8_picture_98 : decode cX8_picture 98 = .ok (.bipush (-2), 2) := by decide +kernel
theorem dX8_picture_100 : decode cX8_picture 100 = .ok (.ireturn, 1) := by decide +kernel
set_option maxRecDepth 20000 in
theorem ggX8_open_X8_in : GoodIn wsX8_open wsX8_in := goodIn_r _ [5] (by decide +kernel) (by decide +kernel)
set_option maxRecDepth 20000 in
theorem gX8_open_X8_in : GoodIn wsX8_open (va_wsS RX8 61 yX8_in wsX8_in) := goodIn_app (goodIn_of _ (by decide +kernel)) ggX8_open_X8_in
set_option maxRecDepth 20000 in
theorem ggX8_open_X8_openOn : GoodIn wsX8_open wsX8_openOn := goodIn_r _ [8] (by decide +kernel) (by decide +kernel)
set_option maxRecDepth 20000 in
theorem gX8_open_X8_openOn : GoodIn wsX8_open (va_wsS RX8 85 yX8_openOn wsX8_openOn) := goodIn_app (goodIn_of _ (by decide +kernel)) ggX8_open_X8_openOn
theorem dX8_open_0 : decode cX8_open 0 = .ok (.iload_n 1, 1) := by decide +kernel
theorem dX8_open_1 : decode cX8_open 1 = .ok (.iconst 0, 1) := by decide +kernel
theorem dX8_open_2 : decode cX8_open 2 = .ok (.iconst 1, 1) := by decide +kernel
theorem dX8_open_3 : decode cX8_open 3 = .ok (.invokestatic 61, 3) := by decide +kernel
theorem dX8_open_6 : decode cX8_open 6 = .ok (.ifCond .eq 14, 3) := by decide +kernel
theorem dX8_open_9 : decode cX8_open 9 = .ok (.aload_n 0, 1) := by decide +kernel
theorem dX8_open_10 : decode cX8_open 10 = .ok (.getfield 7, 3) := by decide +kernel
theorem dX8_open_13 : decode cX8_open 13 = .ok (.iload_n 1, 1) := by decide +kernel
theorem dX8_open_14 : decode cX8_open 14 = .ok (.invokestatic 85, 3) := by decide +kernel
theorem dX8_open_17 : decode cX8_open 17 = .ok (.goto 5, 3) := by decide +kernel
theorem dX8_open_20 : decode cX8_open 20 = .ok (.bipush (-2), 2) := by decide +kernel
theorem dX8_open_22 : decode cX8_open 22 = .ok (.ireturn, 1) := by decide +kernel
set_option maxRecDepth 20000 in
theorem ggX8_would_X8_in : GoodIn wsX8_would wsX8_in := goodIn_r _ [5] (by decide +kernel) (by decide +kernel)
set_option maxRecDepth 20000 in
theorem gX8_would_X8_in : GoodIn wsX8_would (va_wsS RX8 61 yX8_in wsX8_in) := goodIn_app (goodIn_of _ (by decide +kernel)) ggX8_would_X8_in
set_option maxRecDepth 20000 in
theorem ggX8_would_X8_isRight : GoodIn wsX8_would wsX8_isRight := goodIn_r _ [9, 1, 13, 14, 15, 16, 17, 18, 19, 20, 21, 22, 23, 24, 25] (by decide +kernel) (by decide +kernel)
set_option maxRecDepth 20000 in
theorem gX8_would_X8_isRight : GoodIn wsX8_would (wsV RX8 77 RX8 yX8_isRight wsX8_isRight) := goodIn_app (goodIn_of _ (by decide +kernel)) ggX8_would_X8_isRight
set_option maxRecDepth 20000 in
theorem ggX8_would_X8_wouldTurn : GoodIn wsX8_would wsX8_wouldTurn := goodIn_r _ [12] (by decide +kernel) (by decide +kernel)
set_option maxRecDepth 20000 in
theorem gX8_would_X8_wouldTurn : GoodIn wsX8_would (va_wsS RX8 69 yX8_wouldTurn wsX8_wouldTurn) := goodIn_app (goodIn_of _ (by decide +kernel)) ggX8_would_X8_wouldTurn
theorem dX8_would_0 : decode cX8_would 0 = .ok (.iload_n 1, 1) := by decide +kernel
theorem dX8_would_1 : decode cX8_would 1 = .ok (.iconst 1, 1) := by decide +kernel
theorem dX8_would_2 : decode cX8_would 2 = .ok (.bipush 20, 2) := by decide +kernel
theorem dX8_would_4 : decode cX8_would 4 = .ok (.invokestatic 61, 3) := by decide +kernel
theorem dX8_would_7 : decode cX8_would 7 = .ok (.ifCond .ne 6, 3) := by decide +kernel
theorem dX8_would_10 : decode cX8_would 10 = .ok (.bipush (-2), 2) := by decide +kernel
theorem dX8_would_12 : decode cX8_would 12 = .ok (.ireturn, 1) := by decide +kernel
theorem dX8_would_13 : decode cX8_would 13 = .ok (.aload_n 0, 1) := by decide +kernel
theorem dX8_would_14 : decode cX8_would 14 = .ok (.invokevirtual 77, 3) := by decide +kernel
theorem dX8_would_17 : decode cX8_would 17 = .ok (.ifCond .eq 14, 3) := by decide +kernel
theorem dX8_would_20 : decode cX8_would 20 = .ok (.aload_n 0, 1) := by decide +kernel
theorem dX8_would_21 : decode cX8_would 21 = .ok (.getfield 7, 3) := by decide +kernel
theorem dX8_would_24 : decode cX8_would 24 = .ok (.iload_n 1, 1) := by decide +kernel
theorem dX8_would_25 : decode cX8_would 25 = .ok (.invokestatic 69, 3) := by decide +kernel
theorem dX8_would_28 : decode cX8_would 28 = .ok (.goto 5, 3) := by decide +kernel
theorem dX8_would_31 : decode cX8_would 31 = .ok (.bipush (-4), 2) := by decide +kernel
theorem dX8_would_33 : decode cX8_would 33 = .ok (.ireturn, 1) := by decide +kernel
set_option maxRecDepth 20000 in
theorem ggX8_best_X8_isRight : GoodIn wsX8_best wsX8_isRight := goodIn_r _ [6, 1, 10, 11, 12, 13, 14, 15, 16, 17, 18, 19, 20, 21, 22] (by decide +kernel) (by decide +kernel)
set_option maxRecDepth 20000 in
theorem gX8_best_X8_isRight : GoodIn wsX8_best (wsV RX8 77 RX8 yX8_isRight wsX8_isRight) := goodIn_app (goodIn_of _ (by decide +kernel)) ggX8_best_X8_isRight
set_option maxRecDepth 20000 in
theorem ggX8_best_X8_wouldTurn : GoodIn wsX8_best wsX8_wouldTurn := goodIn_r _ [9] (by decide +kernel) (by decide +kernel)
set_option maxRecDepth 20000 in
theorem gX8_best_X8_wouldTurn : GoodIn wsX8_best (va_wsS RX8 69 yX8_wouldTurn wsX8_wouldTurn) := goodIn_app (goodIn_of _ (by decide +kernel)) ggX8_best_X8_wouldTurn
theorem dX8_best_0 : decode cX8_best 0 = .ok (.aload_n 0, 1) := by decide +kernel
theorem dX8_best_1 : decode cX8_best 1 = .ok (.invokevirtual 77, 3) := by decide +kernel
theorem dX8_best_4 : decode cX8_best 4 = .ok (.ifCond .ne 6, 3) := by decide +kernel
theorem dX8_best_7 : decode cX8_best 7 = .ok (.bipush (-4), 2) := by decide +kernel
theorem dX8_best_9 : decode cX8_best 9 = .ok (.ireturn, 1) := by decide +kernel
theorem dX8_best_10 : decode cX8_best 10 = .ok (.iconst 1, 1) := by decide +kernel
theorem dX8_best_11 : decode cX8_best 11 = .ok (.istore_n 1, 1) := by decide +kernel
theorem dX8_best_12 : decode cX8_best 12 = .ok (.iload_n 1, 1) := by decide +kernel
theorem dX8_best_13 : decode cX8_best 13 = .ok (.bipush 20, 2) := by decide +kernel
theorem dX8_best_15 : decode cX8_best 15 = .ok (.if_icmp .gt 23, 3) := by decide +kernel
theorem dX8_best_18 : decode cX8_best 18 = .ok (.aload_n 0, 1) := by decide +kernel
theorem dX8_best_19 : decode cX8_best 19 = .ok (.getfield 7, 3) := by decide +kernel
theorem dX8_best_22 : decode cX8_best 22 = .ok (.iload_n 1, 1) := by decide +kernel
theorem dX8_best_23 : decode cX8_best 23 = .ok (.invokestatic 69, 3) := by decide +kernel
theorem dX8_best_26 : decode cX8_best 26 = .ok (.iconst 1, 1) := by decide +kernel
theorem dX8_best_27 : decode cX8_best 27 = .ok (.if_icmp .ne 5, 3) := by decide +kernel
theorem dX8_best_30 : decode cX8_best 30 = .ok (.iload_n 1, 1) := by decide +kernel
theorem dX8_best_31 : decode cX8_best 31 = .ok (.ireturn, 1) := by decide +kernel
theorem dX8_best_32 : decode cX8_best 32 = .ok (.iinc 1 1, 3) := by decide +kernel
theorem dX8_best_35 : decode cX8_best 35 = .ok (.goto (-23), 3) := by decide +kernel
theorem dX8_best_38 : decode cX8_best 38 = .ok (.bipush (-5), 2) := by decide +kernel
theorem dX8_best_40 : decode cX8_best 40 = .ok (.ireturn, 1) := by decide +kernel
set_option maxRecDepth 20000 in
theorem ggX8_lacking_X8_guessesAll : GoodIn wsX8_lacking wsX8_guessesAll := goodIn_r _ [7, 2, 1, 8, 9, 10, 11, 6, 12, 13, 14, 15, 16, 17, 18, 19, 20, 21, 22, 23, 24, 25, 26, 27, 28, 29, 30, 31, 32, 33, 34, 35, 36] (by decide +kernel) (by decide +kernel)
set_option maxRecDepth 20000 in
theorem gX8_lacking_X8_guessesAll : GoodIn wsX8_lacking (wsV RX8 136 RX8 yX8_guessesAll wsX8_guessesAll) := goodIn_app (goodIn_of _ (by decide +kernel)) ggX8_lacking_X8_guessesAll
theorem dX8_lacking_0 : decode cX8_lacking 0 = .ok (.iload_n 1, 1) := by decide +kernel
theorem dX8_lacking_1 : decode cX8_lacking 1 = .ok (.ifCond .ge 6, 3) := by decide +kernel
theorem dX8_lacking_4 : decode cX8_lacking 4 = .ok (.bipush (-2), 2) := by decide +kernel
theorem dX8_lacking_6 : decode cX8_lacking 6 = .ok (.ireturn, 1) := by decide +kernel
theorem dX8_lacking_7 : decode cX8_lacking 7 = .ok (.aload_n 0, 1) := by decide +kernel
theorem dX8_lacking_8 : decode cX8_lacking 8 = .ok (.invokevirtual 136, 3) := by decide +kernel
theorem dX8_lacking_11 : decode cX8_lacking 11 = .ok (.iload_n 1, 1) := by decide +kernel
theorem dX8_lacking_12 : decode cX8_lacking 12 = .ok (.istore_n 2, 1) := by decide +kernel
theorem dX8_lacking_13 : decode cX8_lacking 13 = .ok (.iconst 0, 1) := by decide +kernel
theorem dX8_lacking_14 : decode cX8_lacking 14 = .ok (.istore_n 3, 1) := by decide +kernel
theorem dX8_lacking_15 : decode cX8_lacking 15 = .ok (.iload_n 3, 1) := by decide +kernel
theorem dX8_lacking_16 : decode cX8_lacking 16 = .ok (.iconst 2, 1) := by decide +kernel
theorem dX8_lacking_17 : decode cX8_lacking 17 = .ok (.aload_n 0, 1) := by decide +kernel
theorem dX8_lacking_18 : decode cX8_lacking 18 = .ok (.getfield 7, 3) := by decide +kernel
theorem dX8_lacking_21 : decode cX8_lacking 21 = .ok (.iconst 0, 1) := by decide +kernel
theorem dX8_lacking_22 : decode cX8_lacking 22 = .ok (.iaload, 1) := by decide +kernel
theorem dX8_lacking_23 : decode cX8_lacking 23 = .ok (.imul, 1) := by decide +kernel
theorem dX8_lacking_24 : decode cX8_lacking 24 = .ok (.if_icmp .ge 29, 3) := by decide +kernel
theorem dX8_lacking_27 : decode cX8_lacking 27 = .ok (.aload_n 0, 1) := by decide +kernel
theorem dX8_lacking_28 : decode cX8_lacking 28 = .ok (.getfield 29, 3) := by decide +kernel
theorem dX8_lacking_31 : decode cX8_lacking 31 = .ok (.iload_n 3, 1) := by decide +kernel
theorem dX8_lacking_32 : decode cX8_lacking 32 = .ok (.iaload, 1) := by decide +kernel
theorem dX8_lacking_33 : decode cX8_lacking 33 = .ok (.bipush (-5), 2) := by decide +kernel
theorem dX8_lacking_35 : decode cX8_lacking 35 = .ok (.if_icmp .ne 12, 3) := by decide +kernel
theorem dX8_lacking_38 : decode cX8_lacking 38 = .ok (.iload_n 2, 1) := by decide +kernel
theorem dX8_lacking_39 : decode cX8_lacking 39 = .ok (.ifCond .ne 5, 3) := by decide +kernel
theorem dX8_lacking_42 : decode cX8_lacking 42 = .ok (.iload_n 3, 1) := by decide +kernel
theorem dX8_lacking_43 : decode cX8_lacking 43 = .ok (.ireturn, 1) := by decide +kernel
theorem dX8_lacking_44 : decode cX8_lacking 44 = .ok (.iinc 2 (-1), 3) := by decide +kernel
theorem dX8_lacking_47 : decode cX8_lacking 47 = .ok (.iinc 3 1, 3) := by decide +kernel
theorem dX8_lacking_50 : decode cX8_lacking 50 = .ok (.goto (-35), 3) := by decide +kernel
theorem dX8_lacking_53 : decode cX8_lacking 53 = .ok (.bipush (-5), 2) := by decide +kernel
theorem dX8_lacking_55 : decode cX8_lacking 55 = .ok (.ireturn, 1) := by decide +kernel
set_option maxRecDepth 20000 in
theorem ggX8_pages_X8_guessesAll : GoodIn wsX8_pages wsX8_guessesAll := goodIn_r _ [7, 2, 1, 8, 9, 10, 11, 6, 12, 13, 14, 15, 16, 17, 18, 19, 20, 21, 22, 23, 28, 29, 30, 31, 32, 33, 34, 35, 36, 37, 38, 39, 40] (by decide +kernel) (by decide +kernel)
set_option maxRecDepth 20000 in
theorem gX8_pages_X8_guessesAll : GoodIn wsX8_pages (wsV RX8 136 RX8 yX8_guessesAll wsX8_guessesAll) := goodIn_app (goodIn_of _ (by decide +kernel)) ggX8_pages_X8_guessesAll
set_option maxRecDepth 20000 in
theorem ggX8_pages_X8_isDoubtful : GoodIn wsX8_pages wsX8_isDoubtful := goodIn_r _ [27, 2, 13, 14, 15, 6, 16, 1, 28, 29, 30, 31, 32, 33, 34, 35, 36, 37, 38, 39, 40] (by decide +kernel) (by decide +kernel)
set_option maxRecDepth 20000 in
theorem gX8_pages_X8_isDoubtful : GoodIn wsX8_pages (wsV RX8 142 RX8 yX8_isDoubtful wsX8_isDoubtful) := goodIn_app (goodIn_of _ (by decide +kernel)) ggX8_pages_X8_isDoubtful
theorem dX8_pages_0 : decode cX8_pages 0 = .ok (.aload_n 0, 1) := by decide +kernel
theorem dX8_pages_1 : decode cX8_pages 1 = .ok (.invokevirtual 136, 3) := by decide +kernel
theorem dX8_pages_4 : decode cX8_pages 4 = .ok (.iconst 0, 1) := by decide +kernel
theorem dX8_pages_5 : decode cX8_pages 5 = .ok (.istore_n 2, 1) := by decide +kernel
theorem dX8_pages_6 : decode cX8_pages 6 = .ok (.iconst 0, 1) := by decide +kernel
theorem dX8_pages_7 : decode cX8_pages 7 = .ok (.istore_n 3, 1) := by decide +kernel
theorem dX8_pages_8 : decode cX8_pages 8 = .ok (.iload_n 3, 1) := by decide +kernel
theorem dX8_pages_9 : decode cX8_pages 9 = .ok (.iconst 2, 1) := by decide +kernel
theorem dX8_pages_10 : decode cX8_pages 10 = .ok (.aload_n 0, 1) := by decide +kernel
theorem dX8_pages_11 : decode cX8_pages 11 = .ok (.getfield 7, 3) := by decide +kernel
theorem dX8_pages_14 : decode cX8_pages 14 = .ok (.iconst 0, 1) := by decide +kernel
theorem dX8_pages_15 : decode cX8_pages 15 = .ok (.iaload, 1) := by decide +kernel
theorem dX8_pages_16 : decode cX8_pages 16 = .ok (.imul, 1) := by decide +kernel
theorem dX8_pages_17 : decode cX8_pages 17 = .ok (.if_icmp .ge 53, 3) := by decide +kernel
theorem dX8_pages_20 : decode cX8_pages 20 = .ok (.iload_n 1, 1) := by decide +kernel
theorem dX8_pages_21 : decode cX8_pages 21 = .ok (.iconst 3, 1) := by decide +kernel
theorem dX8_pages_22 : decode cX8_pages 22 = .ok (.if_icmp .ne 22, 3) := by decide +kernel
theorem dX8_pages_25 : decode cX8_pages 25 = .ok (.aload_n 0, 1) := by decide +kernel
theorem dX8_pages_26 : decode cX8_pages 26 = .ok (.getfield 29, 3) := by decide +kernel
theorem dX8_pages_29 : decode cX8_pages 29 = .ok (.iload_n 3, 1) := by decide +kernel
theorem dX8_pages_30 : decode cX8_pages 30 = .ok (.iaload, 1) := by decide +kernel
theorem dX8_pages_31 : decode cX8_pages 31 = .ok (.bipush (-5), 2) := by decide +kernel
theorem dX8_pages_33 : decode cX8_pages 33 = .ok (.if_icmp .ne 7, 3) := by decide +kernel
theorem dX8_pages_36 : decode cX8_pages 36 = .ok (.iconst 1, 1) := by decide +kernel
theorem dX8_pages_37 : decode cX8_pages 37 = .ok (.goto 12, 3) := by decide +kernel
theorem dX8_pages_40 : decode cX8_pages 40 = .ok (.iconst 0, 1) := by decide +kernel
theorem dX8_pages_41 : decode cX8_pages 41 = .ok (.goto 8, 3) := by decide +kernel
theorem dX8_pages_44 : decode cX8_pages 44 = .ok (.aload_n 0, 1) := by decide +kernel
theorem dX8_pages_45 : decode cX8_pages 45 = .ok (.iload_n 3, 1) := by decide +kernel
theorem dX8_pages_46 : decode cX8_pages 46 = .ok (.invokevirtual 142, 3) := by decide +kernel
theorem dX8_pages_49 : decode cX8_pages 49 = .ok (.istore 4, 2) := by decide +kernel
theorem dX8_pages_51 : decode cX8_pages 51 = .ok (.iload_n 2, 1) := by decide +kernel
theorem dX8_pages_52 : decode cX8_pages 52 = .ok (.iload 4, 2) := by decide +kernel
theorem dX8_pages_54 : decode cX8_pages 54 = .ok (.ifCond .eq 7, 3) := by decide +kernel
theorem dX8_pages_57 : decode cX8_pages 57 = .ok (.iconst 1, 1) := by decide +kernel
theorem dX8_pages_58 : decode cX8_pages 58 = .ok (.goto 4, 3) := by decide +kernel
theorem dX8_pages_61 : decode cX8_pages 61 = .ok (.iconst 0, 1) := by decide +kernel
theorem dX8_pages_62 : decode cX8_pages 62 = .ok (.iadd, 1) := by decide +kernel
theorem dX8_pages_63 : decode cX8_pages 63 = .ok (.istore_n 2, 1) := by decide +kernel
theorem dX8_pages_64 : decode cX8_pages 64 = .ok (.iinc 3 1, 3) := by decide +kernel
theorem dX8_pages_67 : decode cX8_pages 67 = .ok (.goto (-59), 3) := by decide +kernel
theorem dX8_pages_70 : decode cX8_pages 70 = .ok (.iload_n 2, 1) := by decide +kernel
theorem dX8_pages_71 : decode cX8_pages 71 = .ok (.ireturn, 1) := by decide +kernel
set_option maxRecDepth 20000 in
theorem ggX8_pictures_X8_guessesAll : GoodIn wsX8_pictures wsX8_guessesAll := goodIn_r _ [7, 8, 1, 2, 9, 10, 11, 6, 12, 13, 14, 15, 16, 17, 18, 19, 20, 21, 22, 23, 28, 29, 30, 31, 32, 33, 34, 35, 36, 37, 38, 39, 40] (by decide +kernel) (by decide +kernel)
set_option maxRecDepth 20000 in
theorem gX8_pictures_X8_guessesAll : GoodIn wsX8_pictures (wsV RX8 136 RX8 yX8_guessesAll wsX8_guessesAll) := goodIn_app (goodIn_of _ (by decide +kernel)) ggX8_pictures_X8_guessesAll
set_option maxRecDepth 20000 in
theorem ggX8_pictures_X8_isSpare : GoodIn wsX8_pictures wsX8_isSpare := goodIn_r _ [27, 2, 8, 28, 29, 30, 31, 32, 33, 34, 35, 36, 37, 38, 39, 40] (by decide +kernel) (by decide +kernel)
set_option maxRecDepth 20000 in
theorem gX8_pictures_X8_isSpare : GoodIn wsX8_pictures (wsV RX8 145 RX8 yX8_isSpare wsX8_isSpare) := goodIn_app (goodIn_of _ (by decide +kernel)) ggX8_pictures_X8_isSpare
theorem dX8_pictures_0 : decode cX8_pictures 0 = .ok (.aload_n 0, 1) := by decide +kernel
theorem dX8_pictures_1 : decode cX8_pictures 1 = .ok (.invokevirtual 136, 3) := by decide +kernel
theorem dX8_pictures_4 : decode cX8_pictures 4 = .ok (.iconst 0, 1) := by decide +kernel
theorem dX8_pictures_5 : decode cX8_pictures 5 = .ok (.istore_n 2, 1) := by decide +kernel
theorem dX8_pictures_6 : decode cX8_pictures 6 = .ok (.iconst 0, 1) := by decide +kernel
theorem dX8_pictures_7 : decode cX8_pictures 7 = .ok (.istore_n 3, 1) := by decide +kernel
theorem dX8_pictures_8 : decode cX8_pictures 8 = .ok (.iload_n 3, 1) := by decide +kernel
theorem dX8_pictures_9 : decode cX8_pictures 9 = .ok (.aload_n 0, 1) := by decide +kernel
theorem dX8_pictures_10 : decode cX8_pictures 10 = .ok (.getfield 7, 3) := by decide +kernel
theorem dX8_pictures_13 : decode cX8_pictures 13 = .ok (.iconst 2, 1) := by decide +kernel
theorem dX8_pictures_14 : decode cX8_pictures 14 = .ok (.iaload, 1) := by decide +kernel
theorem dX8_pictures_15 : decode cX8_pictures 15 = .ok (.if_icmp .ge 53, 3) := by decide +kernel
theorem dX8_pictures_18 : decode cX8_pictures 18 = .ok (.iload_n 1, 1) := by decide +kernel
theorem dX8_pictures_19 : decode cX8_pictures 19 = .ok (.iconst 5, 1) := by decide +kernel
theorem dX8_pictures_20 : decode cX8_pictures 20 = .ok (.if_icmp .ne 11, 3) := by decide +kernel
theorem dX8_pictures_23 : decode cX8_pictures 23 = .ok (.aload_n 0, 1) := by decide +kernel
theorem dX8_pictures_24 : decode cX8_pictures 24 = .ok (.iload_n 3, 1) := by decide +kernel
theorem dX8_pictures_25 : decode cX8_pictures 25 = .ok (.invokevirtual 145, 3) := by decide +kernel
theorem dX8_pictures_28 : decode cX8_pictures 28 = .ok (.goto 19, 3) := by decide +kernel
theorem dX8_pictures_31 : decode cX8_pictures 31 = .ok (.aload_n 0, 1) := by decide +kernel
theorem dX8_pictures_32 : decode cX8_pictures 32 = .ok (.getfield 26, 3) := by decide +kernel
theorem dX8_pictures_35 : decode cX8_pictures 35 = .ok (.iload_n 3, 1) := by decide +kernel
theorem dX8_pictures_36 : decode cX8_pictures 36 = .ok (.iaload, 1) := by decide +kernel
theorem dX8_pictures_37 : decode cX8_pictures 37 = .ok (.bipush (-5), 2) := by decide +kernel
theorem dX8_pictures_39 : decode cX8_pictures 39 = .ok (.if_icmp .ne 7, 3) := by decide +kernel
theorem dX8_pictures_42 : decode cX8_pictures 42 = .ok (.iconst 1, 1) := by decide +kernel
theorem dX8_pictures_43 : decode cX8_pictures 43 = .ok (.goto 4, 3) := by decide +kernel
theorem dX8_pictures_46 : decode cX8_pictures 46 = .ok (.iconst 0, 1) := by decide +kernel
theorem dX8_pictures_47 : decode cX8_pictures 47 = .ok (.istore 4, 2) := by decide +kernel
theorem dX8_pictures_49 : decode cX8_pictures 49 = .ok (.iload_n 2, 1) := by decide +kernel
theorem dX8_pictures_50 : decode cX8_pictures 50 = .ok (.iload 4, 2) := by decide +kernel
theorem dX8_pictures_52 : decode cX8_pictures 52 = .ok (.ifCond .eq 7, 3) := by decide +kernel
theorem dX8_pictures_55 : decode cX8_pictures 55 = .ok (.iconst 1, 1) := by decide +kernel
theorem dX8_pictures_56 : decode cX8_pictures 56 = .ok (.goto 4, 3) := by decide +kernel
theorem dX8_pictures_59 : decode cX8_pictures 59 = .ok (.iconst 0, 1) := by decide +kernel
theorem dX8_pictures_60 : decode cX8_pictures 60 = .ok (.iadd, 1) := by decide +kernel
theorem dX8_pictures_61 : decode cX8_pictures 61 = .ok (.istore_n 2, 1) := by decide +kernel
theorem dX8_pictures_62 : decode cX8_pictures 62 = .ok (.iinc 3 1, 3) := by decide +kernel
theorem dX8_pictures_65 : decode cX8_pictures 65 = .ok (.goto (-57), 3) := by decide +kernel
theorem dX8_pictures_68 : decode cX8_pictures 68 = .ok (.iload_n 2, 1) := by decide +kernel
theorem dX8_pictures_69 : decode cX8_pictures 69 = .ok (.ireturn, 1) := by decide +kernel
set_option maxRecDepth 20000 in
theorem ggX8_count_X8_pages : GoodIn wsX8_count wsX8_pages := goodIn_r _ [8, 1, 9, 10, 11, 12, 7, 13, 14, 15, 16, 17, 18, 19, 20, 21, 22, 23, 24, 25, 26, 27, 28, 29, 30, 31, 32, 33, 42, 43, 44, 45, 46, 47, 48, 49, 50, 51, 52, 53, 54] (by decide +kernel) (by decide +kernel)
set_option maxRecDepth 20000 in
theorem gX8_count_X8_pages : GoodIn wsX8_count (wsV RX8 148 RX8 yX8_pages wsX8_pages) := goodIn_app (goodIn_of _ (by decide +kernel)) ggX8_count_X8_pages
set_option maxRecDepth 20000 in
theorem ggX8_count_X8_pictures : GoodIn wsX8_count wsX8_pictures := goodIn_r _ [37, 1, 14, 10, 11, 12, 7, 13, 9, 15, 16, 17, 18, 19, 20, 21, 22, 23, 24, 25, 26, 27, 28, 29, 38, 39, 40, 41, 42, 43, 44, 45, 46, 47, 48, 49, 50, 51, 52, 53, 54] (by decide +kernel) (by decide +kernel)
set_option maxRecDepth 20000 in
theorem gX8_count_X8_pictures : GoodIn wsX8_count (wsV RX8 151 RX8 yX8_pictures wsX8_pictures) := goodIn_app (goodIn_of _ (by decide +kernel)) ggX8_count_X8_pictures
theorem dX8_count_0 : decode cX8_count 0 = .ok (.iload_n 1, 1) := by decide +kernel
theorem dX8_count_1 : decode cX8_count 1 = .ok (.tableswitch 144 0 16 #[83, 83, 83, 90, 90, 96, 96, 102, 102, 102, 114, 114, 114, 114, 127, 134, 139], 83) := by decide +kernel
theorem dX8_count_84 : decode cX8_count 84 = .ok (.aload_n 0, 1) := by decide +kernel
theorem dX8_count_85 : decode cX8_count 85 = .ok (.getfield 7, 3) := by decide +kernel
theorem dX8_count_88 : decode cX8_count 88 = .ok (.iload_n 1, 1) := by decide +kernel
theorem dX8_count_89 : decode cX8_count 89 = .ok (.iaload, 1) := by decide +kernel
theorem dX8_count_90 : decode cX8_count 90 = .ok (.ireturn, 1) := by decide +kernel
theorem dX8_count_91 : decode cX8_count 91 = .ok (.aload_n 0, 1) := by decide +kernel
theorem dX8_count_92 : decode cX8_count 92 = .ok (.iload_n 1, 1) := by decide +kernel
theorem dX8_count_93 : decode cX8_count 93 = .ok (.invokevirtual 148, 3) := by decide +kernel
theorem dX8_count_96 : decode cX8_count 96 = .ok (.ireturn, 1) := by decide +kernel
theorem dX8_count_97 : decode cX8_count 97 = .ok (.aload_n 0, 1) := by decide +kernel
theorem dX8_count_98 : decode cX8_count 98 = .ok (.iload_n 1, 1) := by decide +kernel
theorem dX8_count_99 : decode cX8_count 99 = .ok (.invokevirtual 151, 3) := by decide +kernel
theorem dX8_count_102 : decode cX8_count 102 = .ok (.ireturn, 1) := by decide +kernel
theorem dX8_count_103 : decode cX8_count 103 = .ok (.aload_n 0, 1) := by decide +kernel
theorem dX8_count_104 : decode cX8_count 104 = .ok (.getfield 7, 3) := by decide +kernel
theorem dX8_count_107 : decode cX8_count 107 = .ok (.iconst 4, 1) := by decide +kernel
theorem dX8_count_108 : decode cX8_count 108 = .ok (.iload_n 1, 1) := by decide +kernel
theorem dX8_count_109 : decode cX8_count 109 = .ok (.iadd, 1) := by decide +kernel
theorem dX8_count_110 : decode cX8_count 110 = .ok (.bipush 7, 2) := by decide +kernel
theorem dX8_count_112 : decode cX8_count 112 = .ok (.isub, 1) := by decide +kernel
theorem dX8_count_113 : decode cX8_count 113 = .ok (.iaload, 1) := by decide +kernel
theorem dX8_count_114 : decode cX8_count 114 = .ok (.ireturn, 1) := by decide +kernel
theorem dX8_count_115 : decode cX8_count 115 = .ok (.aload_n 0, 1) := by decide +kernel
theorem dX8_count_116 : decode cX8_count 116 = .ok (.getfield 7, 3) := by decide +kernel
theorem dX8_count_119 : decode cX8_count 119 = .ok (.bipush 8, 2) := by decide +kernel
theorem dX8_count_121 : decode cX8_count 121 = .ok (.iload_n 1, 1) := by decide +kernel
theorem dX8_count_122 : decode cX8_count 122 = .ok (.iadd, 1) := by decide +kernel
theorem dX8_count_123 : decode cX8_count 123 = .ok (.bipush 10, 2) := by decide +kernel
theorem dX8_count_125 : decode cX8_count 125 = .ok (.isub, 1) := by decide +kernel
theorem dX8_count_126 : decode cX8_count 126 = .ok (.iaload, 1) := by decide +kernel
theorem dX8_count_127 : decode cX8_count 127 = .ok (.ireturn, 1) := by decide +kernel
theorem dX8_count_128 : decode cX8_count 128 = .ok (.aload_n 0, 1) := by decide +kernel
theorem dX8_count_129 : decode cX8_count 129 = .ok (.getfield 7, 3) := by decide +kernel
theorem dX8_count_132 : decode cX8_count 132 = .ok (.iconst 3, 1) := by decide +kernel
theorem dX8_count_133 : decode cX8_count 133 = .ok (.iaload, 1) := by decide +kernel
theorem dX8_count_134 : decode cX8_count 134 = .ok (.ireturn, 1) := by decide +kernel
theorem dX8_count_135 : decode cX8_count 135 = .ok (.aload_n 0, 1) := by decide +kernel
theorem dX8_count_136 : decode cX8_count 136 = .ok (.getfield 35, 3) := by decide +kernel
theorem dX8_count_139 : decode cX8_count 139 = .ok (.ireturn, 1) := by decide +kernel
theorem dX8_count_140 : decode cX8_count 140 = .ok (.aload_n 0, 1) := by decide +kernel
theorem dX8_count_141 : decode cX8_count 141 = .ok (.getfield 113, 3) := by decide +kernel
theorem dX8_count_144 : decode cX8_count 144 = .ok (.ireturn, 1) := by decide +kernel
theorem dX8_count_145 : decode cX8_count 145 = .ok (.bipush (-2), 2) := by decide +kernel
theorem dX8_count_147 : decode cX8_count 147 = .ok (.ireturn, 1) := by decide +kernel
theorem dJ9_max_7cf53_0 : decode cJ9_max_7cf53 0 = .ok (.iload_n 0, 1) := by decide +kernel
theorem dJ9_max_7cf53_1 : decode cJ9_max_7cf53 1 = .ok (.iload_n 1, 1) := by decide +kernel
theorem dJ9_max_7cf53_2 : decode cJ9_max_7cf53 2 = .ok (.if_icmp .lt 7, 3) := by decide +kernel
theorem dJ9_max_7cf53_5 : decode cJ9_max_7cf53 5 = .ok (.iload_n 0, 1) := by decide +kernel
theorem dJ9_max_7cf53_6 : decode cJ9_max_7cf53 6 = .ok (.goto 4, 3) := by decide +kernel
theorem dJ9_max_7cf53_9 : decode cJ9_max_7cf53 9 = .ok (.iload_n 1, 1) := by decide +kernel
theorem dJ9_max_7cf53_10 : decode cJ9_max_7cf53 10 = .ok (.ireturn, 1) := by decide +kernel
theorem dJ9_min_7cf53_0 : decode cJ9_min_7cf53 0 = .ok (.iload_n 0, 1) := by decide +kernel
theorem dJ9_min_7cf53_1 : decode cJ9_min_7cf53 1 = .ok (.iload_n 1, 1) := by decide +kernel
theorem dJ9_min_7cf53_2 : decode cJ9_min_7cf53 2 = .ok (.if_icmp .gt 7, 3) := by decide +kernel
theorem dJ9_min_7cf53_5 : decode cJ9_min_7cf53 5 = .ok (.iload_n 0, 1) := by decide +kernel
theorem dJ9_min_7cf53_6 : decode cJ9_min_7cf53 6 = .ok (.goto 4, 3) := by decide +kernel
theorem dJ9_min_7cf53_9 : decode cJ9_min_7cf53 9 = .ok (.iload_n 1, 1) := by decide +kernel
theorem dJ9_min_7cf53_10 : decode cJ9_min_7cf53 10 = .ok (.ireturn, 1) := by decide +kernel
theorem dJ7_fill_53178_0 : decode cJ7_fill_53178 0 = .ok (.iconst 0, 1) := by decide +kernel
theorem dJ7_fill_53178_1 : decode cJ7_fill_53178 1 = .ok (.istore_n 2, 1) := by decide +kernel
theorem dJ7_fill_53178_2 : decode cJ7_fill_53178 2 = .ok (.aload_n 0, 1) := by decide +kernel
theorem dJ7_fill_53178_3 : decode cJ7_fill_53178 3 = .ok (.arraylength, 1) := by decide +kernel
theorem dJ7_fill_53178_4 : decode cJ7_fill_53178 4 = .ok (.istore_n 3, 1) := by decide +kernel
theorem dJ7_fill_53178_5 : decode cJ7_fill_53178 5 = .ok (.iload_n 2, 1) := by decide +kernel
theorem dJ7_fill_53178_6 : decode cJ7_fill_53178 6 = .ok (.iload_n 3, 1) := by decide +kernel
theorem dJ7_fill_53178_7 : decode cJ7_fill_53178 7 = .ok (.if_icmp .ge 13, 3) := by decide +kernel
theorem dJ7_fill_53178_10 : decode cJ7_fill_53178 10 = .ok (.aload_n 0, 1) := by decide +kernel
theorem dJ7_fill_53178_11 : decode cJ7_fill_53178 11 = .ok (.iload_n 2, 1) := by decide +kernel
theorem dJ7_fill_53178_12 : decode cJ7_fill_53178 12 = .ok (.iload_n 1, 1) := by decide +kernel
theorem dJ7_fill_53178_13 : decode cJ7_fill_53178 13 = .ok (.iastore, 1) := by decide +kernel
theorem dJ7_fill_53178_14 : decode cJ7_fill_53178 14 = .ok (.iinc 2 1, 3) := by decide +kernel
theorem dJ7_fill_53178_17 : decode cJ7_fill_53178 17 = .ok (.goto (-12), 3) := by decide +kernel
theorem dJ7_fill_53178_20 : decode cJ7_fill_53178 20 = .ok (.return_, 1) := by decide +kernel
set_option maxRecDepth 20000 in
theorem ggL_law_X7_init : GoodIn wsL_law wsX7_init := goodIn_r _ [8, 9, 10, 11, 12, 13, 14, 15, 16, 17, 18, 19, 20, 21, 22, 23, 24, 25, 26, 27, 28, 29, 30, 31, 32, 33, 34, 35, 36, 37, 38, 39, 40, 41, 42, 43, 44, 45, 46, 47, 48, 49, 50, 51, 52, 53, 54, 55, 56, 57, 58, 59, 60, 61, 62, 63, 64, 65, 66, 67, 68, 69, 70, 71, 72, 73, 74, 75, 76, 77, 78, 79, 80, 81, 82, 83, 84, 85, 86, 87, 88, 89, 90, 91, 92, 93, 94, 95, 96, 97, 98, 99, 100, 101, 102, 103, 104, 105, 106, 107, 108, 109, 708, 709, 710, 711, 712, 713, 714, 715, 716, 717, 688, 689, 690, 691, 692, 693, 694, 718, 719, 720, 721, 722, 723, 724, 725, 726, 727, 728, 729, 730, 731, 732, 733, 734, 735] (by decide +kernel) (by decide +kernel)
set_option maxRecDepth 20000 in
theorem gL_law_X7_init : GoodIn wsL_law (wsX7_init) := ggL_law_X7_init
set_option maxRecDepth 20000 in
theorem ggL_law_X8_init : GoodIn wsL_law wsX8_init := goodIn_r _ [112, 113, 10, 11, 65, 114, 115, 116, 117, 99, 118, 119, 120, 121, 695, 696, 697, 698, 699, 700, 701, 702, 703, 704, 705, 706, 707] (by decide +kernel) (by decide +kernel)
set_option maxRecDepth 20000 in
theorem gL_law_X8_init : GoodIn wsL_law (wsX8_init) := ggL_law_X8_init
set_option maxRecDepth 20000 in
theorem ggL_law_X7_takeBook : GoodIn wsL_law wsX7_takeBook := goodIn_r _ [125, 25, 16, 21, 15, 126, 127, 128, 24, 129, 101, 130, 131, 132, 133, 100, 134, 135, 136, 137, 138, 139, 140, 141, 142, 143, 144, 145, 146, 147, 148, 37, 149, 56, 53, 54, 55, 150, 80, 81, 45, 82, 66, 83, 84, 85, 86, 151, 152, 153, 154, 155, 156, 157, 158, 159, 160, 161, 162, 163, 164, 165, 166, 167, 168, 169, 20, 170, 93, 92, 171, 172, 173, 174, 175, 176, 177, 14, 178, 38, 42, 46, 179, 47, 180, 181, 182, 183, 184, 185, 186, 187, 188, 189, 190, 191, 192, 193, 194, 63, 195, 196, 197, 198, 199, 200, 201, 202, 41, 203, 72, 73, 74, 75, 76, 204, 205, 206, 207, 208, 209, 210, 688, 689, 690, 691, 692, 693, 694, 708, 709, 710, 711, 712, 713, 714, 715, 716, 717, 726, 727, 728, 729, 720, 721, 735, 718, 719, 730, 731, 732, 733, 734] (by decide +kernel) (by decide +kernel)
set_option maxRecDepth 20000 in
theorem gL_law_X7_takeBook : GoodIn wsL_law (wsV RL 13 RX7 yX7_takeBook wsX7_takeBook) := goodIn_app (goodIn_of _ (by decide +kernel)) ggL_law_X7_takeBook
set_option maxRecDepth 20000 in
theorem ggL_law_X8_takeBook : GoodIn wsL_law wsX8_takeBook := goodIn_r _ [214, 114, 215, 121, 216, 217, 218, 5, 219, 220, 221, 222, 223, 224, 225, 226, 227, 228, 229, 118, 230, 231, 232, 233, 234, 235, 236, 237, 238, 239, 240, 241, 242, 243, 244, 245, 116, 246, 247, 248, 249, 250, 251, 252, 253, 254, 255, 256, 695, 696, 697, 698, 699, 700, 701, 702, 703, 704, 705, 706, 707] (by decide +kernel) (by decide +kernel)
set_option maxRecDepth 20000 in
theorem gL_law_X8_takeBook : GoodIn wsL_law (wsV RL 17 RX8 yX8_takeBook wsX8_takeBook) := goodIn_app (goodIn_of _ (by decide +kernel)) ggL_law_X8_takeBook
set_option maxRecDepth 20000 in
theorem ggL_law_X7_layBook : GoodIn wsL_law wsX7_layBook := goodIn_r _ [260, 21, 15, 167, 168, 169, 20, 170, 93, 92, 171, 172, 173, 174, 175, 176, 177, 14, 178, 38, 42, 46, 179, 47, 180, 181, 182, 183, 184, 185, 186, 187, 37, 188, 53, 54, 55, 56, 189, 190, 191, 45, 192, 66, 193, 194, 63, 195, 196, 197, 198, 199, 200, 201, 202, 41, 203, 72, 73, 74, 75, 76, 204, 205, 206, 207, 208, 209, 261, 262, 263, 264, 265, 147, 148, 149, 150, 80, 81, 82, 83, 84, 85, 86, 266, 156, 157, 158, 159, 160, 161, 162, 688, 689, 690, 691, 692, 693, 694, 708, 709, 710, 711, 712, 713, 714, 715, 716, 717, 718, 719, 726, 727, 728, 729, 735, 730, 731, 732, 733, 734] (by decide +kernel) (by decide +kernel)
set_option maxRecDepth 20000 in
theorem gL_law_X7_layBook : GoodIn wsL_law (wsV RL 18 RX7 yX7_layBook wsX7_layBook) := goodIn_app (goodIn_of _ (by decide +kernel)) ggL_law_X7_layBook
set_option maxRecDepth 20000 in
theorem ggL_law_X8_layBook : GoodIn wsL_law wsX8_layBook := goodIn_r _ [270, 114, 234, 235, 5, 236, 241, 242, 243, 244, 245, 116, 246, 247, 248, 249, 250, 251, 252, 253, 254, 255, 256, 695, 696, 697, 698, 699, 700, 701, 702, 703, 704, 705, 706, 707] (by decide +kernel) (by decide +kernel)
set_option maxRecDepth 20000 in
theorem gL_law_X8_layBook : GoodIn wsL_law (wsV RL 22 RX8 yX8_layBook wsX8_layBook) := goodIn_app (goodIn_of _ (by decide +kernel)) ggL_law_X8_layBook
set_option maxRecDepth 20000 in
theorem ggL_law_X7_print : GoodIn wsL_law wsX7_print := goodIn_r _ [274, 15, 21, 275, 276, 277, 37, 278, 159, 160, 161, 162, 56, 279, 280, 281, 45, 282, 66, 83, 84, 85, 86, 167, 168, 169, 20, 170, 93, 92, 171, 172, 173, 174, 175, 176, 177, 14, 178, 38, 42, 46, 179, 47, 180, 181, 182, 183, 184, 185, 186, 187, 188, 53, 54, 55, 189, 190, 191, 192, 193, 194, 63, 195, 196, 197, 198, 199, 200, 201, 202, 41, 203, 72, 73, 74, 75, 76, 204, 205, 283, 80, 81, 82, 688, 689, 690, 691, 692, 693, 694, 708, 709, 710, 711, 712, 713, 714, 715, 716, 717, 726, 727, 728, 729, 735, 718, 719, 730, 731, 732, 733, 734] (by decide +kernel) (by decide +kernel)
set_option maxRecDepth 20000 in
theorem gL_law_X7_print : GoodIn wsL_law (wsV RL 23 RX7 yX7_print wsX7_print) := goodIn_app (goodIn_of _ (by decide +kernel)) ggL_law_X7_print
set_option maxRecDepth 20000 in
theorem ggL_law_X8_print : GoodIn wsL_law wsX8_print := goodIn_r _ [287, 114, 288, 289, 290, 5, 291, 234, 235, 236, 241, 242, 243, 244, 245, 116, 246, 247, 248, 695, 696, 697, 698, 699, 700, 701, 702, 703, 704, 705, 706, 707] (by decide +kernel) (by decide +kernel)
set_option maxRecDepth 20000 in
theorem gL_law_X8_print : GoodIn wsL_law (wsV RL 26 RX8 yX8_print wsX8_print) := goodIn_app (goodIn_of _ (by decide +kernel)) ggL_law_X8_print
set_option maxRecDepth 20000 in
theorem ggL_law_X7_turn : GoodIn wsL_law wsX7_turn := goodIn_r _ [295, 15, 21, 296, 297, 298, 14, 299, 38, 179, 167, 168, 169, 20, 170, 93, 92, 171, 172, 173, 174, 175, 176, 177, 178, 42, 46, 47, 180, 181, 182, 183, 184, 185, 186, 187, 37, 188, 53, 54, 55, 56, 189, 190, 191, 45, 192, 66, 193, 194, 63, 195, 196, 197, 198, 199, 200, 201, 202, 41, 203, 72, 73, 74, 75, 76, 204, 205, 300, 301, 302, 303, 304, 305, 306, 307, 308, 280, 281, 282, 83, 84, 85, 86, 309, 310, 311, 312, 313, 314, 62, 64, 688, 689, 690, 691, 692, 693, 694, 708, 709, 710, 711, 712, 713, 714, 715, 716, 717, 726, 727, 728, 729, 718, 719, 735, 730, 731, 732, 733, 734] (by decide +kernel) (by decide +kernel)
set_option maxRecDepth 20000 in
theorem gL_law_X7_turn : GoodIn wsL_law (wsV RL 27 RX7 yX7_turn wsX7_turn) := goodIn_app (goodIn_of _ (by decide +kernel)) ggL_law_X7_turn
set_option maxRecDepth 20000 in
theorem ggL_law_X8_turn : GoodIn wsL_law wsX8_turn := goodIn_r _ [318, 114, 319, 320, 321, 5, 322, 241, 242, 243, 244, 245, 116, 246, 247, 248, 323, 324, 325, 326, 327, 328, 329, 330, 331, 695, 696, 697, 698, 699, 700, 701, 702, 703, 704, 705, 706, 707] (by decide +kernel) (by decide +kernel)
set_option maxRecDepth 20000 in
theorem gL_law_X8_turn : GoodIn wsL_law (wsV RL 30 RX8 yX8_turn wsX8_turn) := goodIn_app (goodIn_of _ (by decide +kernel)) ggL_law_X8_turn
set_option maxRecDepth 20000 in
theorem ggL_law_X7_turnBack : GoodIn wsL_law wsX7_turnBack := goodIn_r _ [335, 15, 21, 167, 168, 169, 20, 170, 93, 92, 171, 172, 173, 174, 175, 176, 177, 14, 178, 38, 42, 46, 179, 47, 180, 181, 182, 183, 184, 185, 186, 187, 37, 188, 53, 54, 55, 56, 189, 190, 191, 45, 192, 66, 193, 194, 63, 195, 196, 197, 198, 199, 200, 201, 202, 41, 203, 72, 73, 74, 75, 76, 204, 205, 688, 689, 690, 691, 692, 693, 694, 708, 709, 710, 711, 712, 713, 714, 715, 716, 717, 718, 719, 726, 727, 728, 729, 735, 730, 731, 732, 733, 734] (by decide +kernel) (by decide +kernel)
set_option maxRecDepth 20000 in
theorem gL_law_X7_turnBack : GoodIn wsL_law (wsV RL 31 RX7 yX7_turnBack wsX7_turnBack) := goodIn_app (goodIn_of _ (by decide +kernel)) ggL_law_X7_turnBack
set_option maxRecDepth 20000 in
theorem ggL_law_X8_turnBack : GoodIn wsL_law wsX8_turnBack := goodIn_r _ [339, 114, 241, 242, 243, 5, 244, 245, 116, 246, 247, 248, 695, 696, 697, 698, 699, 700, 701, 702, 703, 704, 705, 706, 707] (by decide +kernel) (by decide +kernel)
set_option maxRecDepth 20000 in
theorem gL_law_X8_turnBack : GoodIn wsL_law (wsV RL 34 RX8 yX8_turnBack wsX8_turnBack) := goodIn_app (goodIn_of _ (by decide +kernel)) ggL_law_X8_turnBack
set_option maxRecDepth 20000 in
theorem ggL_law_X7_shoot : GoodIn wsL_law wsX7_shoot := goodIn_r _ [343, 15, 21, 344, 345, 346, 14, 347, 38, 348, 349, 350, 351, 42, 352, 353, 354, 355, 356, 357, 358, 359, 179, 360, 2, 361, 362, 363, 364, 365, 366, 297, 298, 299, 167, 168, 169, 20, 170, 93, 92, 171, 172, 173, 174, 175, 176, 177, 178, 46, 47, 180, 181, 182, 183, 184, 185, 186, 187, 37, 188, 53, 54, 55, 56, 189, 190, 191, 45, 192, 66, 193, 194, 63, 195, 196, 197, 198, 199, 200, 201, 202, 41, 203, 72, 73, 74, 75, 76, 204, 205, 367, 368, 369, 370, 371, 372, 373, 374, 375, 376, 377, 378, 379, 380, 308, 280, 281, 282, 83, 84, 85, 86, 381, 382, 383, 384, 385, 80, 81, 82, 688, 689, 690, 691, 692, 693, 694, 708, 709, 710, 711, 712, 713, 714, 715, 716, 717, 726, 727, 728, 729, 730, 731, 732, 733, 734, 718, 719, 735] (by decide +kernel) (by decide +kernel)
set_option maxRecDepth 20000 in
theorem gL_law_X7_shoot : GoodIn wsL_law (wsV RL 35 RX7 yX7_shoot wsX7_shoot) := goodIn_app (goodIn_of _ (by decide +kernel)) ggL_law_X7_shoot
set_option maxRecDepth 20000 in
theorem ggL_law_X8_shoot : GoodIn wsL_law wsX8_shoot := goodIn_r _ [389, 114, 115, 246, 247, 5, 248, 390, 391, 392, 393, 394, 395, 396, 397, 398, 399, 400, 401, 241, 242, 243, 244, 245, 116, 695, 696, 697, 698, 699, 700, 701, 702, 703, 704, 705, 706, 707] (by decide +kernel) (by decide +kernel)
set_option maxRecDepth 20000 in
theorem gL_law_X8_shoot : GoodIn wsL_law (wsV RL 38 RX8 yX8_shoot wsX8_shoot) := goodIn_app (goodIn_of _ (by decide +kernel)) ggL_law_X8_shoot
set_option maxRecDepth 20000 in
theorem ggL_law_X7_scan : GoodIn wsL_law wsX7_scan := goodIn_r _ [405, 15, 16, 21, 344, 345, 346, 14, 347, 38, 406, 176, 177, 178, 42, 46, 179, 47, 180, 181, 182, 183, 184, 185, 186, 187, 37, 188, 53, 54, 55, 56, 189, 190, 191, 45, 192, 66, 193, 194, 63, 195, 196, 197, 198, 199, 200, 201, 202, 41, 203, 72, 73, 74, 75, 76, 204, 205, 407, 408, 409, 410, 366, 297, 298, 299, 411, 349, 350, 351, 352, 353, 354, 355, 356, 357, 358, 359, 360, 2, 361, 362, 363, 364, 365, 412, 368, 369, 370, 371, 372, 373, 374, 375, 376, 377, 378, 379, 380, 308, 280, 281, 282, 83, 84, 85, 86, 381, 382, 383, 384, 385, 80, 81, 82, 413, 301, 302, 303, 304, 305, 306, 307, 309, 310, 311, 312, 313, 314, 62, 64, 167, 168, 169, 20, 170, 93, 92, 171, 172, 173, 174, 175, 688, 689, 690, 691, 692, 693, 694, 708, 709, 710, 711, 712, 713, 714, 715, 716, 717, 726, 727, 728, 729, 735, 730, 731, 732, 733, 734, 718, 719] (by decide +kernel) (by decide +kernel)
set_option maxRecDepth 20000 in
theorem gL_law_X7_scan : GoodIn wsL_law (wsV RL 39 RX7 yX7_scan wsX7_scan) := goodIn_app (goodIn_of _ (by decide +kernel)) ggL_law_X7_scan
set_option maxRecDepth 20000 in
theorem ggL_law_X8_scan : GoodIn wsL_law wsX8_scan := goodIn_r _ [417, 114, 115, 234, 235, 5, 236, 246, 247, 248, 390, 391, 392, 393, 394, 395, 396, 397, 398, 399, 400, 401, 323, 324, 325, 326, 327, 328, 329, 330, 331, 241, 242, 243, 244, 245, 116, 695, 696, 697, 698, 699, 700, 701, 702, 703, 704, 705, 706, 707] (by decide +kernel) (by decide +kernel)
set_option maxRecDepth 20000 in
theorem gL_law_X8_scan : GoodIn wsL_law (wsV RL 43 RX8 yX8_scan wsX8_scan) := goodIn_app (goodIn_of _ (by decide +kernel)) ggL_law_X8_scan
set_option maxRecDepth 20000 in
theorem ggL_law_X7_throwAway : GoodIn wsL_law wsX7_throwAway := goodIn_r _ [421, 15, 21, 422, 423, 424, 41, 425, 76, 167, 168, 169, 20, 170, 93, 92, 171, 172, 173, 174, 175, 176, 177, 14, 178, 38, 42, 46, 179, 47, 180, 181, 182, 183, 184, 185, 186, 187, 37, 188, 53, 54, 55, 56, 189, 190, 191, 45, 192, 66, 193, 194, 63, 195, 196, 197, 198, 199, 200, 201, 202, 203, 72, 73, 74, 75, 204, 205, 426, 427, 428, 429, 430, 431, 432, 433, 434, 83, 84, 85, 86, 688, 689, 690, 691, 692, 693, 694, 708, 709, 710, 711, 712, 713, 714, 715, 716, 717, 730, 731, 732, 733, 734, 718, 719, 726, 727, 728, 729, 735] (by decide +kernel) (by decide +kernel)
set_option maxRecDepth 20000 in
theorem gL_law_X7_throwAway : GoodIn wsL_law (wsV RL 44 RX7 yX7_throwAway wsX7_throwAway) := goodIn_app (goodIn_of _ (by decide +kernel)) ggL_law_X7_throwAway
set_option maxRecDepth 20000 in
theorem ggL_law_X8_throwAway : GoodIn wsL_law wsX8_throwAway := goodIn_r _ [438, 114, 439, 440, 441, 5, 442, 234, 235, 236, 241, 242, 243, 244, 245, 116, 246, 247, 248, 695, 696, 697, 698, 699, 700, 701, 702, 703, 704, 705, 706, 707] (by decide +kernel) (by decide +kernel)
set_option maxRecDepth 20000 in
theorem gL_law_X8_throwAway : GoodIn wsL_law (wsV RL 47 RX8 yX8_throwAway wsX8_throwAway) := goodIn_app (goodIn_of _ (by decide +kernel)) ggL_law_X8_throwAway
set_option maxRecDepth 20000 in
theorem ggL_law_X7_setSuction : GoodIn wsL_law wsX7_setSuction := goodIn_r _ [446, 15, 21, 447, 448, 2, 449, 167, 168, 169, 20, 170, 93, 92, 171, 172, 173, 174, 175, 176, 177, 14, 178, 38, 42, 46, 179, 47, 180, 181, 182, 183, 184, 185, 186, 187, 37, 188, 53, 54, 55, 56, 189, 190, 191, 45, 192, 66, 193, 194, 63, 195, 196, 197, 198, 199, 200, 201, 202, 41, 203, 72, 73, 74, 75, 76, 204, 205, 688, 689, 690, 691, 692, 693, 694, 708, 709, 710, 711, 712, 713, 714, 715, 716, 717, 718, 719, 726, 727, 728, 729, 735, 730, 731, 732, 733, 734] (by decide +kernel) (by decide +kernel)
set_option maxRecDepth 20000 in
theorem gL_law_X7_setSuction : GoodIn wsL_law (wsV RL 48 RX7 yX7_setSuction wsX7_setSuction) := goodIn_app (goodIn_of _ (by decide +kernel)) ggL_law_X7_setSuction
set_option maxRecDepth 20000 in
theorem ggL_law_X8_setSuction : GoodIn wsL_law wsX8_setSuction := goodIn_r _ [453, 234, 235, 5, 236, 454, 455, 456, 457, 114, 241, 242, 243, 244, 245, 116, 246, 247, 248, 695, 696, 697, 698, 699, 700, 701, 702, 703, 704, 705, 706, 707] (by decide +kernel) (by decide +kernel)
set_option maxRecDepth 20000 in
theorem gL_law_X8_setSuction : GoodIn wsL_law (wsV RL 51 RX8 yX8_setSuction wsX8_setSuction) := goodIn_app (goodIn_of _ (by decide +kernel)) ggL_law_X8_setSuction
set_option maxRecDepth 20000 in
theorem ggL_law_X7_set : GoodIn wsL_law wsX7_set := goodIn_r _ [461, 462, 15, 21, 279, 280, 281, 45, 282, 66, 83, 84, 85, 86, 167, 168, 169, 20, 170, 93, 92, 171, 172, 173, 174, 175, 176, 177, 14, 178, 38, 42, 46, 179, 47, 180, 181, 182, 183, 184, 185, 186, 187, 37, 188, 53, 54, 55, 56, 189, 190, 191, 192, 193, 194, 63, 195, 196, 197, 198, 199, 200, 201, 202, 41, 203, 72, 73, 74, 75, 76, 204, 205, 283, 80, 81, 82, 688, 689, 690, 691, 692, 693, 694, 708, 709, 710, 711, 712, 713, 714, 715, 716, 717, 735, 718, 719, 726, 727, 728, 729, 730, 731, 732, 733, 734] (by decide +kernel) (by decide +kernel)
set_option maxRecDepth 20000 in
theorem gL_law_X7_set : GoodIn wsL_law (wsV RL 52 RX7 yX7_set wsX7_set) := goodIn_app (goodIn_of _ (by decide +kernel)) ggL_law_X7_set
set_option maxRecDepth 20000 in
theorem ggL_law_X8_set : GoodIn wsL_law wsX8_set := goodIn_r _ [466, 234, 235, 5, 236, 454, 455, 456, 457, 114, 241, 242, 243, 244, 245, 116, 246, 247, 248, 695, 696, 697, 698, 699, 700, 701, 702, 703, 704, 705, 706, 707] (by decide +kernel) (by decide +kernel)
set_option maxRecDepth 20000 in
theorem gL_law_X8_set : GoodIn wsL_law (wsV RL 55 RX8 yX8_set wsX8_set) := goodIn_app (goodIn_of _ (by decide +kernel)) ggL_law_X8_set
set_option maxRecDepth 20000 in
theorem ggL_law_X7_type : GoodIn wsL_law wsX7_type := goodIn_r _ [470, 25, 471, 472, 473, 24, 474, 101, 100, 688, 689, 690, 691, 692, 693, 694, 720, 721] (by decide +kernel) (by decide +kernel)
set_option maxRecDepth 20000 in
theorem gL_law_X7_type : GoodIn wsL_law (wsV RL 56 RX7 yX7_type wsX7_type) := goodIn_app (goodIn_of _ (by decide +kernel)) ggL_law_X7_type
set_option maxRecDepth 20000 in
theorem ggL_law_X8_type : GoodIn wsL_law wsX8_type := goodIn_r _ [478, 221, 118, 695, 696, 697, 698, 699, 700, 701, 702, 703, 704, 705, 706, 707] (by decide +kernel) (by decide +kernel)
set_option maxRecDepth 20000 in
theorem gL_law_X8_type : GoodIn wsL_law (wsV RL 60 RX8 yX8_type wsX8_type) := goodIn_app (goodIn_of _ (by decide +kernel)) ggL_law_X8_type
set_option maxRecDepth 20000 in
theorem ggL_law_X7_clearText : GoodIn wsL_law wsX7_clearText := goodIn_r _ [482, 25, 688, 689, 690, 691, 692, 693, 694, 720, 721] (by decide +kernel) (by decide +kernel)
set_option maxRecDepth 20000 in
theorem gL_law_X7_clearText : GoodIn wsL_law (wsV RL 61 RX7 yX7_clearText wsX7_clearText) := goodIn_app (goodIn_of _ (by decide +kernel)) ggL_law_X7_clearText
set_option maxRecDepth 20000 in
theorem ggL_law_X8_clearText : GoodIn wsL_law wsX8_clearText := goodIn_r _ [486, 221, 695, 696, 697, 698, 699, 700, 701, 702, 703, 704, 705, 706, 707] (by decide +kernel) (by decide +kernel)
set_option maxRecDepth 20000 in
theorem gL_law_X8_clearText : GoodIn wsL_law (wsV RL 64 RX8 yX8_clearText wsX8_clearText) := goodIn_app (goodIn_of _ (by decide +kernel)) ggL_law_X8_clearText
set_option maxRecDepth 20000 in
theorem ggL_law_X7_undo : GoodIn wsL_law wsX7_undo := goodIn_r _ [490, 21, 15, 491, 492, 493, 20, 494, 93, 92, 175, 176, 177, 14, 178, 38, 42, 46, 179, 47, 180, 181, 182, 183, 184, 185, 186, 187, 37, 188, 53, 54, 55, 56, 189, 190, 191, 45, 192, 66, 193, 194, 63, 195, 196, 197, 198, 199, 200, 201, 202, 41, 203, 72, 73, 74, 75, 76, 204, 205, 688, 689, 690, 691, 692, 693, 694, 718, 719, 708, 709, 710, 711, 712, 713, 714, 715, 716, 717, 726, 727, 728, 729, 735, 730, 731, 732, 733, 734] (by decide +kernel) (by decide +kernel)
set_option maxRecDepth 20000 in
theorem gL_law_X7_undo : GoodIn wsL_law (wsV RL 65 RX7 yX7_undo wsX7_undo) := goodIn_app (goodIn_of _ (by decide +kernel)) ggL_law_X7_undo
set_option maxRecDepth 20000 in
theorem ggL_law_X8_undo : GoodIn wsL_law wsX8_undo := goodIn_r _ [498, 245, 116, 114, 246, 247, 5, 248, 695, 696, 697, 698, 699, 700, 701, 702, 703, 704, 705, 706, 707] (by decide +kernel) (by decide +kernel)
set_option maxRecDepth 20000 in
theorem gL_law_X8_undo : GoodIn wsL_law (wsV RL 68 RX8 yX8_undo wsX8_undo) := goodIn_app (goodIn_of _ (by decide +kernel)) ggL_law_X8_undo
set_option maxRecDepth 20000 in
theorem ggL_law_X7_keep : GoodIn wsL_law wsX7_keep := goodIn_r _ [502, 17, 15, 30, 406, 176, 177, 14, 178, 38, 42, 46, 179, 47, 180, 181, 182, 183, 184, 185, 186, 187, 37, 188, 53, 54, 55, 56, 189, 190, 191, 45, 192, 66, 193, 194, 63, 195, 196, 197, 198, 199, 200, 201, 202, 41, 203, 72, 73, 74, 75, 76, 204, 205, 688, 689, 690, 691, 692, 693, 694, 708, 709, 710, 711, 712, 713, 714, 715, 716, 717, 730, 731, 732, 733, 734, 726, 727, 728, 729, 735] (by decide +kernel) (by decide +kernel)
set_option maxRecDepth 20000 in
theorem gL_law_X7_keep : GoodIn wsL_law (wsV RL 69 RX7 yX7_keep wsX7_keep) := goodIn_app (goodIn_of _ (by decide +kernel)) ggL_law_X7_keep
set_option maxRecDepth 20000 in
theorem ggL_law_X8_keep : GoodIn wsL_law wsX8_keep := goodIn_r _ [506, 114, 117, 507, 246, 247, 5, 248, 695, 696, 697, 698, 699, 700, 701, 702, 703, 704, 705, 706, 707] (by decide +kernel) (by decide +kernel)
set_option maxRecDepth 20000 in
theorem gL_law_X8_keep : GoodIn wsL_law (wsV RL 72 RX8 yX8_keep wsX8_keep) := goodIn_app (goodIn_of _ (by decide +kernel)) ggL_law_X8_keep
set_option maxRecDepth 20000 in
theorem ggL_law_X7_restore : GoodIn wsL_law wsX7_restore := goodIn_r _ [511, 30, 21, 15, 17, 167, 168, 169, 20, 170, 93, 92, 171, 172, 173, 174, 175, 176, 177, 14, 178, 38, 42, 46, 179, 47, 180, 181, 182, 183, 184, 185, 186, 187, 37, 188, 53, 54, 55, 56, 189, 190, 191, 45, 192, 66, 193, 194, 63, 195, 196, 197, 198, 199, 200, 201, 202, 41, 203, 72, 73, 74, 75, 76, 204, 205, 406, 688, 689, 690, 691, 692, 693, 694, 708, 709, 710, 711, 712, 713, 714, 715, 716, 717, 730, 731, 732, 733, 734, 718, 719, 726, 727, 728, 729, 735] (by decide +kernel) (by decide +kernel)
set_option maxRecDepth 20000 in
theorem gL_law_X7_restore : GoodIn wsL_law (wsV RL 73 RX7 yX7_restore wsX7_restore) := goodIn_app (goodIn_of _ (by decide +kernel)) ggL_law_X7_restore
set_option maxRecDepth 20000 in
theorem ggL_law_X8_restore : GoodIn wsL_law wsX8_restore := goodIn_r _ [515, 507, 114, 117, 241, 242, 243, 5, 244, 245, 116, 246, 247, 248, 695, 696, 697, 698, 699, 700, 701, 702, 703, 704, 705, 706, 707] (by decide +kernel) (by decide +kernel)
set_option maxRecDepth 20000 in
theorem gL_law_X8_restore : GoodIn wsL_law (wsV RL 76 RX8 yX8_restore wsX8_restore) := goodIn_app (goodIn_of _ (by decide +kernel)) ggL_law_X8_restore
set_option maxRecDepth 20000 in
theorem ggL_law_X7_leaf : GoodIn wsL_law wsX7_leaf := goodIn_r _ [519, 15, 279, 280, 281, 45, 282, 66, 83, 84, 85, 86, 520, 360, 2, 361, 688, 689, 690, 691, 692, 693, 694, 708, 709, 710, 711, 712, 713, 714, 715, 716, 717, 726, 727, 728, 729, 735] (by decide +kernel) (by decide +kernel)
set_option maxRecDepth 20000 in
theorem gL_law_X7_leaf : GoodIn wsL_law (wsV RL 77 RX7 yX7_leaf wsX7_leaf) := goodIn_app (goodIn_of _ (by decide +kernel)) ggL_law_X7_leaf
set_option maxRecDepth 20000 in
theorem ggL_law_X8_leaf : GoodIn wsL_law wsX8_leaf := goodIn_r _ [524, 114, 234, 235, 5, 236, 695, 696, 697, 698, 699, 700, 701, 702, 703, 704, 705, 706, 707] (by decide +kernel) (by decide +kernel)
set_option maxRecDepth 20000 in
theorem gL_law_X8_leaf : GoodIn wsL_law (wsV RL 80 RX8 yX8_leaf wsX8_leaf) := goodIn_app (goodIn_of _ (by decide +kernel)) ggL_law_X8_leaf
set_option maxRecDepth 20000 in
theorem ggL_law_X7_page : GoodIn wsL_law wsX7_page := goodIn_r _ [528, 15, 29, 275, 276, 277, 37, 278, 159, 160, 161, 162, 56, 279, 280, 281, 45, 282, 66, 83, 84, 85, 86, 529, 530, 531, 28, 532, 533, 534, 108, 107, 535, 536, 537, 538, 539, 540, 541, 542, 543, 544, 545, 546, 547, 548, 549, 550, 551, 41, 552, 74, 553, 554, 555, 80, 81, 82, 556, 557, 558, 559, 560, 561, 562, 563, 76, 72, 564, 565, 566, 567, 520, 360, 2, 361, 568, 376, 377, 14, 378, 38, 46, 379, 380, 308, 688, 689, 690, 691, 692, 693, 694, 708, 709, 710, 711, 712, 713, 714, 715, 716, 717, 726, 727, 728, 729, 722, 723, 724, 725, 735, 730, 731, 732, 733, 734] (by decide +kernel) (by decide +kernel)
set_option maxRecDepth 20000 in
theorem gL_law_X7_page : GoodIn wsL_law (wsV RL 81 RX7 yX7_page wsX7_page) := goodIn_app (goodIn_of _ (by decide +kernel)) ggL_law_X7_page
set_option maxRecDepth 20000 in
theorem ggL_law_X8_page : GoodIn wsL_law wsX8_page := goodIn_r _ [572, 114, 120, 288, 289, 290, 5, 291, 234, 235, 236, 573, 574, 575, 576, 119, 577, 578, 579, 580, 581, 582, 583, 584, 585, 586, 587, 588, 589, 590, 591, 592, 399, 400, 401, 695, 696, 697, 698, 699, 700, 701, 702, 703, 704, 705, 706, 707] (by decide +kernel) (by decide +kernel)
set_option maxRecDepth 20000 in
theorem gL_law_X8_page : GoodIn wsL_law (wsV RL 84 RX8 yX8_page wsX8_page) := goodIn_app (goodIn_of _ (by decide +kernel)) ggL_law_X8_page
set_option maxRecDepth 20000 in
theorem ggL_law_X7_picture : GoodIn wsL_law wsX7_picture := goodIn_r _ [596, 15, 29, 422, 423, 424, 41, 425, 76, 279, 280, 281, 45, 282, 66, 83, 84, 85, 86, 597, 550, 551, 552, 74, 553, 520, 360, 2, 361, 529, 530, 531, 28, 532, 533, 534, 108, 107, 535, 160, 161, 37, 162, 56, 536, 537, 538, 539, 540, 541, 542, 543, 544, 545, 546, 547, 548, 549, 554, 276, 277, 278, 159, 555, 80, 81, 82, 556, 557, 558, 559, 598, 599, 600, 601, 602, 379, 380, 688, 689, 690, 691, 692, 693, 694, 708, 709, 710, 711, 712, 713, 714, 715, 716, 717, 730, 731, 732, 733, 734, 722, 723, 724, 725, 735, 726, 727, 728, 729] (by decide +kernel) (by decide +kernel)
set_option maxRecDepth 20000 in
theorem gL_law_X7_picture : GoodIn wsL_law (wsV RL 85 RX7 yX7_picture wsX7_picture) := goodIn_app (goodIn_of _ (by decide +kernel)) ggL_law_X7_picture
set_option maxRecDepth 20000 in
theorem ggL_law_X8_picture : GoodIn wsL_law wsX8_picture := goodIn_r _ [606, 119, 439, 440, 441, 5, 442, 114, 234, 235, 236, 573, 574, 575, 576, 120, 577, 578, 579, 580, 581, 582, 583, 584, 288, 289, 290, 291, 607, 608, 609, 610, 695, 696, 697, 698, 699, 700, 701, 702, 703, 704, 705, 706, 707] (by decide +kernel) (by decide +kernel)
set_option maxRecDepth 20000 in
theorem gL_law_X8_picture : GoodIn wsL_law (wsV RL 88 RX8 yX8_picture wsX8_picture) := goodIn_app (goodIn_of _ (by decide +kernel)) ggL_law_X8_picture
set_option maxRecDepth 20000 in
theorem ggL_law_X7_open : GoodIn wsL_law wsX7_open := goodIn_r _ [614, 15, 615, 357, 358, 14, 359, 179, 616, 363, 364, 365, 366, 297, 298, 299, 38, 688, 689, 690, 691, 692, 693, 694, 708, 709, 710, 711, 712, 713, 714, 715, 716, 717, 726, 727, 728, 729] (by decide +kernel) (by decide +kernel)
set_option maxRecDepth 20000 in
theorem gL_law_X7_open : GoodIn wsL_law (wsV RL 89 RX7 yX7_open wsX7_open) := goodIn_app (goodIn_of _ (by decide +kernel)) ggL_law_X7_open
set_option maxRecDepth 20000 in
theorem ggL_law_X8_open : GoodIn wsL_law wsX8_open := goodIn_r _ [620, 114, 234, 235, 5, 236, 393, 394, 395, 695, 696, 697, 698, 699, 700, 701, 702, 703, 704, 705, 706, 707] (by decide +kernel) (by decide +kernel)
set_option maxRecDepth 20000 in
theorem gL_law_X8_open : GoodIn wsL_law (wsV RL 92 RX8 yX8_open wsX8_open) := goodIn_app (goodIn_of _ (by decide +kernel)) ggL_law_X8_open
set_option maxRecDepth 20000 in
theorem ggL_law_X7_would : GoodIn wsL_law wsX7_would := goodIn_r _ [624, 15, 447, 448, 2, 449, 296, 297, 298, 14, 299, 38, 179, 625, 305, 306, 307, 308, 280, 281, 45, 282, 66, 83, 84, 85, 86, 688, 689, 690, 691, 692, 693, 694, 708, 709, 710, 711, 712, 713, 714, 715, 716, 717, 726, 727, 728, 729, 735] (by decide +kernel) (by decide +kernel)
set_option maxRecDepth 20000 in
theorem gL_law_X7_would : GoodIn wsL_law (wsV RL 93 RX7 yX7_would wsX7_would) := goodIn_app (goodIn_of _ (by decide +kernel)) ggL_law_X7_would
set_option maxRecDepth 20000 in
theorem ggL_law_X8_would : GoodIn wsL_law wsX8_would := goodIn_r _ [629, 114, 234, 235, 5, 236, 319, 320, 321, 322, 326, 327, 328, 695, 696, 697, 698, 699, 700, 701, 702, 703, 704, 705, 706, 707] (by decide +kernel) (by decide +kernel)
set_option maxRecDepth 20000 in
theorem gL_law_X8_would : GoodIn wsL_law (wsV RL 96 RX8 yX8_would wsX8_would) := goodIn_app (goodIn_of _ (by decide +kernel)) ggL_law_X8_would
set_option maxRecDepth 20000 in
theorem ggL_law_X7_best : GoodIn wsL_law wsX7_best := goodIn_r _ [633, 15, 296, 297, 298, 14, 299, 38, 179, 625, 305, 306, 307, 308, 280, 281, 45, 282, 66, 83, 84, 85, 86, 688, 689, 690, 691, 692, 693, 694, 708, 709, 710, 711, 712, 713, 714, 715, 716, 717, 726, 727, 728, 729, 735] (by decide +kernel) (by decide +kernel)
set_option maxRecDepth 20000 in
theorem gL_law_X7_best : GoodIn wsL_law (wsV RL 97 RX7 yX7_best wsX7_best) := goodIn_app (goodIn_of _ (by decide +kernel)) ggL_law_X7_best
set_option maxRecDepth 20000 in
theorem ggL_law_X8_best : GoodIn wsL_law wsX8_best := goodIn_r _ [637, 114, 319, 320, 321, 5, 322, 326, 327, 328, 695, 696, 697, 698, 699, 700, 701, 702, 703, 704, 705, 706, 707] (by decide +kernel) (by decide +kernel)
set_option maxRecDepth 20000 in
theorem gL_law_X8_best : GoodIn wsL_law (wsV RL 100 RX8 yX8_best wsX8_best) := goodIn_app (goodIn_of _ (by decide +kernel)) ggL_law_X8_best
set_option maxRecDepth 20000 in
theorem ggL_law_X7_lacking : GoodIn wsL_law wsX7_lacking := goodIn_r _ [641, 29, 15, 529, 530, 531, 28, 532, 533, 534, 108, 107, 535, 160, 161, 37, 162, 56, 536, 537, 538, 45, 539, 66, 540, 541, 542, 543, 544, 545, 546, 547, 548, 280, 281, 282, 83, 84, 85, 86, 549, 550, 551, 41, 552, 74, 553, 554, 276, 277, 278, 159, 555, 80, 81, 82, 556, 557, 558, 559, 642, 643, 644, 645, 688, 689, 690, 691, 692, 693, 694, 708, 709, 710, 711, 712, 713, 714, 715, 716, 717, 730, 731, 732, 733, 734, 722, 723, 724, 725, 726, 727, 728, 729, 735] (by decide +kernel) (by decide +kernel)
set_option maxRecDepth 20000 in
theorem gL_law_X7_lacking : GoodIn wsL_law (wsV RL 101 RX7 yX7_lacking wsX7_lacking) := goodIn_app (goodIn_of _ (by decide +kernel)) ggL_law_X7_lacking
set_option maxRecDepth 20000 in
theorem ggL_law_X8_lacking : GoodIn wsL_law wsX8_lacking := goodIn_r _ [649, 114, 120, 573, 574, 575, 5, 576, 119, 577, 578, 579, 580, 581, 582, 583, 584, 288, 289, 290, 291, 234, 235, 236, 695, 696, 697, 698, 699, 700, 701, 702, 703, 704, 705, 706, 707] (by decide +kernel) (by decide +kernel)
set_option maxRecDepth 20000 in
theorem gL_law_X8_lacking : GoodIn wsL_law (wsV RL 104 RX8 yX8_lacking wsX8_lacking) := goodIn_app (goodIn_of _ (by decide +kernel)) ggL_law_X8_lacking
set_option maxRecDepth 20000 in
theorem ggL_law_X7_count : GoodIn wsL_law wsX7_count := goodIn_r _ [653, 15, 21, 25, 654, 655, 656, 2, 657, 29, 529, 530, 531, 28, 532, 533, 534, 108, 107, 535, 160, 161, 37, 162, 56, 536, 537, 538, 45, 539, 66, 540, 541, 542, 543, 544, 545, 546, 547, 548, 280, 281, 282, 83, 84, 85, 86, 549, 550, 551, 41, 552, 74, 553, 554, 276, 277, 278, 159, 555, 80, 81, 82, 556, 557, 558, 559, 658, 659, 660, 661, 662, 663, 664, 665, 666, 565, 566, 567, 667, 668, 669, 670, 671, 599, 600, 601, 672, 673, 674, 675, 279, 688, 689, 690, 691, 692, 693, 694, 708, 709, 710, 711, 712, 713, 714, 715, 716, 717, 726, 727, 728, 729, 730, 731, 732, 733, 734, 718, 719, 720, 721, 722, 723, 724, 725, 735] (by decide +kernel) (by decide +kernel)
set_option maxRecDepth 20000 in
theorem gL_law_X7_count : GoodIn wsL_law (wsV RL 105 RX7 yX7_count wsX7_count) := goodIn_app (goodIn_of _ (by decide +kernel)) ggL_law_X7_count
set_option maxRecDepth 20000 in
theorem ggL_law_X8_count : GoodIn wsL_law wsX8_count := goodIn_r _ [679, 114, 245, 221, 680, 681, 682, 5, 683, 120, 573, 574, 575, 576, 119, 577, 578, 579, 580, 581, 582, 583, 584, 288, 289, 290, 291, 234, 235, 236, 589, 590, 591, 592, 684, 685, 686, 687, 607, 608, 609, 610, 695, 696, 697, 698, 699, 700, 701, 702, 703, 704, 705, 706, 707] (by decide +kernel) (by decide +kernel)
set_option maxRecDepth 20000 in
theorem gL_law_X8_count : GoodIn wsL_law (wsV RL 108 RX8 yX8_count wsX8_count) := goodIn_app (goodIn_of _ (by decide +kernel)) ggL_law_X8_count
theorem dL_law_0 : decode cL_law 0 = .ok (.new 7, 3) := by decide +kernel
theorem dL_law_3 : decode cL_law 3 = .ok (.dup, 1) := by decide +kernel
theorem dL_law_4 : decode cL_law 4 = .ok (.invokespecial 9, 3) := by decide +kernel
theorem dL_law_7 : decode cL_law 7 = .ok (.astore_n 1, 1) := by decide +kernel
theorem dL_law_8 : decode cL_law 8 = .ok (.new 10, 3) := by decide +kernel
theorem dL_law_11 : decode cL_law 11 = .ok (.dup, 1) := by decide +kernel
theorem dL_law_12 : decode cL_law 12 = .ok (.invokespecial 12, 3) := by decide +kernel
theorem dL_law_15 : decode cL_law 15 = .ok (.astore_n 2, 1) := by decide +kernel
theorem dL_law_16 : decode cL_law 16 = .ok (.iconst 0, 1) := by decide +kernel
theorem dL_law_17 : decode cL_law 17 = .ok (.istore_n 3, 1) := by decide +kernel
theorem dL_law_18 : decode cL_law 18 = .ok (.iload_n 3, 1) := by decide +kernel
theorem dL_law_19 : decode cL_law 19 = .ok (.aload_n 0, 1) := by decide +kernel
theorem dL_law_20 : decode cL_law 20 = .ok (.arraylength, 1) := by decide +kernel
theorem dL_law_21 : decode cL_law 21 = .ok (.iconst 3, 1) := by decide +kernel
theorem dL_law_22 : decode cL_law 22 = .ok (.isub, 1) := by decide +kernel
theorem dL_law_23 : decode cL_law 23 = .ok (.if_icmp .gt 624, 3) := by decide +kernel
theorem dL_law_26 : decode cL_law 26 = .ok (.aload_n 0, 1) := by decide +kernel
theorem dL_law_27 : decode cL_law 27 = .ok (.iload_n 3, 1) := by decide +kernel
theorem dL_law_28 : decode cL_law 28 = .ok (.iaload, 1) := by decide +kernel
theorem dL_law_29 : decode cL_law 29 = .ok (.bipush 31, 2) := by decide +kernel
theorem dL_law_31 : decode cL_law 31 = .ok (.iand, 1) := by decide +kernel
theorem dL_law_32 : decode cL_law 32 = .ok (.tableswitch 609 0 22 #[108, 121, 154, 187, 200, 213, 226, 249, 272, 295, 328, 353, 366, 379, 392, 405, 438, 471, 504, 527, 550, 563, 586], 108) := by decide +kernel
theorem dL_law_140 : decode cL_law 140 = .ok (.aload_n 1, 1) := by decide +kernel
theorem dL_law_141 : decode cL_law 141 = .ok (.invokevirtual 13, 3) := by decide +kernel
theorem dL_law_144 : decode cL_law 144 = .ok (.aload_n 2, 1) := by decide +kernel
theorem dL_law_145 : decode cL_law 145 = .ok (.invokevirtual 17, 3) := by decide +kernel
theorem dL_law_148 : decode cL_law 148 = .ok (.if_icmp .eq 493, 3) := by decide +kernel
theorem dL_law_151 : decode cL_law 151 = .ok (.iconst 0, 1) := by decide +kernel
theorem dL_law_152 : decode cL_law 152 = .ok (.ireturn, 1) := by decide +kernel
theorem dL_law_153 : decode cL_law 153 = .ok (.aload_n 1, 1) := by decide +kernel
theorem dL_law_154 : decode cL_law 154 = .ok (.aload_n 0, 1) := by decide +kernel
theorem dL_law_155 : decode cL_law 155 = .ok (.iload_n 3, 1) := by decide +kernel
theorem dL_law_156 : decode cL_law 156 = .ok (.iconst 1, 1) := by decide +kernel
theorem dL_law_157 : decode cL_law 157 = .ok (.iadd, 1) := by decide +kernel
theorem dL_law_158 : decode cL_law 158 = .ok (.iaload, 1) := by decide +kernel
theorem dL_law_159 : decode cL_law 159 = .ok (.aload_n 0, 1) := by decide +kernel
theorem dL_law_160 : decode cL_law 160 = .ok (.iload_n 3, 1) := by decide +kernel
theorem dL_law_161 : decode cL_law 161 = .ok (.iconst 2, 1) := by decide +kernel
theorem dL_law_162 : decode cL_law 162 = .ok (.iadd, 1) := by decide +kernel
theorem dL_law_163 : decode cL_law 163 = .ok (.iaload, 1) := by decide +kernel
theorem dL_law_164 : decode cL_law 164 = .ok (.invokevirtual 18, 3) := by decide +kernel
theorem dL_law_167 : decode cL_law 167 = .ok (.aload_n 2, 1) := by decide +kernel
theorem dL_law_168 : decode cL_law 168 = .ok (.aload_n 0, 1) := by decide +kernel
theorem dL_law_169 : decode cL_law 169 = .ok (.iload_n 3, 1) := by decide +kernel
theorem dL_law_170 : decode cL_law 170 = .ok (.iconst 1, 1) := by decide +kernel
theorem dL_law_171 : decode cL_law 171 = .ok (.iadd, 1) := by decide +kernel
theorem dL_law_172 : decode cL_law 172 = .ok (.iaload, 1) := by decide +kernel
theorem dL_law_173 : decode cL_law 173 = .ok (.aload_n 0, 1) := by decide +kernel
theorem dL_law_174 : decode cL_law 174 = .ok (.iload_n 3, 1) := by decide +kernel
theorem dL_law_175 : decode cL_law 175 = .ok (.iconst 2, 1) := by decide +kernel
theorem dL_law_176 : decode cL_law 176 = .ok (.iadd, 1) := by decide +kernel
theorem dL_law_177 : decode cL_law 177 = .ok (.iaload, 1) := by decide +kernel
theorem dL_law_178 : decode cL_law 178 = .ok (.invokevirtual 22, 3) := by decide +kernel
theorem dL_law_181 : decode cL_law 181 = .ok (.if_icmp .eq 460, 3) := by decide +kernel
theorem dL_law_184 : decode cL_law 184 = .ok (.iconst 0, 1) := by decide +kernel
theorem dL_law_185 : decode cL_law 185 = .ok (.ireturn, 1) := by decide +kernel
theorem dL_law_186 : decode cL_law 186 = .ok (.aload_n 1, 1) := by decide +kernel
theorem dL_law_187 : decode cL_law 187 = .ok (.aload_n 0, 1) := by decide +kernel
theorem dL_law_188 : decode cL_law 188 = .ok (.iload_n 3, 1) := by decide +kernel
theorem dL_law_189 : decode cL_law 189 = .ok (.iconst 1, 1) := by decide +kernel
theorem dL_law_190 : decode cL_law 190 = .ok (.iadd, 1) := by decide +kernel
theorem dL_law_191 : decode cL_law 191 = .ok (.iaload, 1) := by decide +kernel
theorem dL_law_192 : decode cL_law 192 = .ok (.aload_n 0, 1) := by decide +kernel
theorem dL_law_193 : decode cL_law 193 = .ok (.iload_n 3, 1) := by decide +kernel
theorem dL_law_194 : decode cL_law 194 = .ok (.iconst 2, 1) := by decide +kernel
theorem dL_law_195 : decode cL_law 195 = .ok (.iadd, 1) := by decide +kernel
theorem dL_law_196 : decode cL_law 196 = .ok (.iaload, 1) := by decide +kernel
theorem dL_law_197 : decode cL_law 197 = .ok (.invokevirtual 23, 3) := by decide +kernel
theorem dL_law_200 : decode cL_law 200 = .ok (.aload_n 2, 1) := by decide +kernel
theorem dL_law_201 : decode cL_law 201 = .ok (.aload_n 0, 1) := by decide +kernel
theorem dL_law_202 : decode cL_law 202 = .ok (.iload_n 3, 1) := by decide +kernel
theorem dL_law_203 : decode cL_law 203 = .ok (.iconst 1, 1) := by decide +kernel
theorem dL_law_204 : decode cL_law 204 = .ok (.iadd, 1) := by decide +kernel
theorem dL_law_205 : decode cL_law 205 = .ok (.iaload, 1) := by decide +kernel
theorem dL_law_206 : decode cL_law 206 = .ok (.aload_n 0, 1) := by decide +kernel
theorem dL_law_207 : decode cL_law 207 = .ok (.iload_n 3, 1) := by decide +kernel
theorem dL_law_208 : decode cL_law 208 = .ok (.iconst 2, 1) := by decide +kernel
theorem dL_law_209 : decode cL_law 209 = .ok (.iadd, 1) := by decide +kernel
theorem dL_law_210 : decode cL_law 210 = .ok (.iaload, 1) := by decide +kernel
theorem dL_law_211 : decode cL_law 211 = .ok (.invokevirtual 26, 3) := by decide +kernel
theorem dL_law_214 : decode cL_law 214 = .ok (.if_icmp .eq 427, 3) := by decide +kernel
theorem dL_law_217 : decode cL_law 217 = .ok (.iconst 0, 1) := by decide +kernel
theorem dL_law_218 : decode cL_law 218 = .ok (.ireturn, 1) := by decide +kernel
theorem dL_law_219 : decode cL_law 219 = .ok (.aload_n 1, 1) := by decide +kernel
theorem dL_law_220 : decode cL_law 220 = .ok (.invokevirtual 27, 3) := by decide +kernel
theorem dL_law_223 : decode cL_law 223 = .ok (.aload_n 2, 1) := by decide +kernel
theorem dL_law_224 : decode cL_law 224 = .ok (.invokevirtual 30, 3) := by decide +kernel
theorem dL_law_227 : decode cL_law 227 = .ok (.if_icmp .eq 414, 3) := by decide +kernel
theorem dL_law_230 : decode cL_law 230 = .ok (.iconst 0, 1) := by decide +kernel
theorem dL_law_231 : decode cL_law 231 = .ok (.ireturn, 1) := by decide +kernel
theorem dL_law_232 : decode cL_law 232 = .ok (.aload_n 1, 1) := by decide +kernel
theorem dL_law_233 : decode cL_law 233 = .ok (.invokevirtual 31, 3) := by decide +kernel
theorem dL_law_236 : decode cL_law 236 = .ok (.aload_n 2, 1) := by decide +kernel
theorem dL_law_237 : decode cL_law 237 = .ok (.invokevirtual 34, 3) := by decide +kernel
theorem dL_law_240 : decode cL_law 240 = .ok (.if_icmp .eq 401, 3) := by decide +kernel
theorem dL_law_243 : decode cL_law 243 = .ok (.iconst 0, 1) := by decide +kernel
theorem dL_law_244 : decode cL_law 244 = .ok (.ireturn, 1) := by decide +kernel
theorem dL_law_245 : decode cL_law 245 = .ok (.aload_n 1, 1) := by decide +kernel
theorem dL_law_246 : decode cL_law 246 = .ok (.invokevirtual 35, 3) := by decide +kernel
theorem dL_law_249 : decode cL_law 249 = .ok (.aload_n 2, 1) := by decide +kernel
theorem dL_law_250 : decode cL_law 250 = .ok (.invokevirtual 38, 3) := by decide +kernel
theorem dL_law_253 : decode cL_law 253 = .ok (.if_icmp .eq 388, 3) := by decide +kernel
theorem dL_law_256 : decode cL_law 256 = .ok (.iconst 0, 1) := by decide +kernel
theorem dL_law_257 : decode cL_law 257 = .ok (.ireturn, 1) := by decide +kernel
theorem dL_law_258 : decode cL_law 258 = .ok (.aload_n 1, 1) := by decide +kernel
theorem dL_law_259 : decode cL_law 259 = .ok (.aload_n 0, 1) := by decide +kernel
theorem dL_law_260 : decode cL_law 260 = .ok (.iload_n 3, 1) := by decide +kernel
theorem dL_law_261 : decode cL_law 261 = .ok (.iconst 1, 1) := by decide +kernel
theorem dL_law_262 : decode cL_law 262 = .ok (.iadd, 1) := by decide +kernel
theorem dL_law_263 : decode cL_law 263 = .ok (.iaload, 1) := by decide +kernel
theorem dL_law_264 : decode cL_law 264 = .ok (.invokevirtual 39, 3) := by decide +kernel
theorem dL_law_267 : decode cL_law 267 = .ok (.aload_n 2, 1) := by decide +kernel
theorem dL_law_268 : decode cL_law 268 = .ok (.aload_n 0, 1) := by decide +kernel
theorem dL_law_269 : decode cL_law 269 = .ok (.iload_n 3, 1) := by decide +kernel
theorem dL_law_270 : decode cL_law 270 = .ok (.iconst 1, 1) := by decide +kernel
theorem dL_law_271 : decode cL_law 271 = .ok (.iadd, 1) := by decide +kernel
theorem dL_law_272 : decode cL_law 272 = .ok (.iaload, 1) := by decide +kernel
theorem dL_law_273 : decode cL_law 273 = .ok (.invokevirtual 43, 3) := by decide +kernel
theorem dL_law_276 : decode cL_law 276 = .ok (.if_icmp .eq 365, 3) := by decide +kernel
theorem dL_law_279 : decode cL_law 279 = .ok (.iconst 0, 1) := by decide +kernel
theorem dL_law_280 : decode cL_law 280 = .ok (.ireturn, 1) := by decide +kernel
theorem dL_law_281 : decode cL_law 281 = .ok (.aload_n 1, 1) := by decide +kernel
theorem dL_law_282 : decode cL_law 282 = .ok (.aload_n 0, 1) := by decide +kernel
theorem dL_law_283 : decode cL_law 283 = .ok (.iload_n 3, 1) := by decide +kernel
theorem dL_law_284 : decode cL_law 284 = .ok (.iconst 1, 1) := by decide +kernel
theorem dL_law_285 : decode cL_law 285 = .ok (.iadd, 1) := by decide +kernel
theorem dL_law_286 : decode cL_law 286 = .ok (.iaload, 1) := by decide +kernel
theorem dL_law_287 : decode cL_law 287 = .ok (.invokevirtual 44, 3) := by decide +kernel
theorem dL_law_290 : decode cL_law 290 = .ok (.aload_n 2, 1) := by decide +kernel
theorem dL_law_291 : decode cL_law 291 = .ok (.aload_n 0, 1) := by decide +kernel
theorem dL_law_292 : decode cL_law 292 = .ok (.iload_n 3, 1) := by decide +kernel
theorem dL_law_293 : decode cL_law 293 = .ok (.iconst 1, 1) := by decide +kernel
theorem dL_law_294 : decode cL_law 294 = .ok (.iadd, 1) := by decide +kernel
theorem dL_law_295 : decode cL_law 295 = .ok (.iaload, 1) := by decide +kernel
theorem dL_law_296 : decode cL_law 296 = .ok (.invokevirtual 47, 3) := by decide +kernel
theorem dL_law_299 : decode cL_law 299 = .ok (.if_icmp .eq 342, 3) := by decide +kernel
theorem dL_law_302 : decode cL_law 302 = .ok (.iconst 0, 1) := by decide +kernel
theorem dL_law_303 : decode cL_law 303 = .ok (.ireturn, 1) := by decide +kernel
theorem dL_law_304 : decode cL_law 304 = .ok (.aload_n 1, 1) := by decide +kernel
theorem dL_law_305 : decode cL_law 305 = .ok (.aload_n 0, 1) := by decide +kernel
theorem dL_law_306 : decode cL_law 306 = .ok (.iload_n 3, 1) := by decide +kernel
theorem dL_law_307 : decode cL_law 307 = .ok (.iconst 1, 1) := by decide +kernel
theorem dL_law_308 : decode cL_law 308 = .ok (.iadd, 1) := by decide +kernel
theorem dL_law_309 : decode cL_law 309 = .ok (.iaload, 1) := by decide +kernel
theorem dL_law_310 : decode cL_law 310 = .ok (.invokevirtual 48, 3) := by decide +kernel
theorem dL_law_313 : decode cL_law 313 = .ok (.aload_n 2, 1) := by decide +kernel
theorem dL_law_314 : decode cL_law 314 = .ok (.aload_n 0, 1) := by decide +kernel
theorem dL_law_315 : decode cL_law 315 = .ok (.iload_n 3, 1) := by decide +kernel
theorem dL_law_316 : decode cL_law 316 = .ok (.iconst 1, 1) := by decide +kernel
theorem dL_law_317 : decode cL_law 317 = .ok (.iadd, 1) := by decide +kernel
theorem dL_law_318 : decode cL_law 318 = .ok (.iaload, 1) := by decide +kernel
theorem dL_law_319 : decode cL_law 319 = .ok (.invokevirtual 51, 3) := by decide +kernel
theorem dL_law_322 : decode cL_law 322 = .ok (.if_icmp .eq 319, 3) := by decide +kernel
theorem dL_law_325 : decode cL_law 325 = .ok (.iconst 0, 1) := by decide +kernel
theorem dL_law_326 : decode cL_law 326 = .ok (.ireturn, 1) := by decide +kernel
theorem dL_law_327 : decode cL_law 327 = .ok (.aload_n 1, 1) := by decide +kernel
theorem dL_law_328 : decode cL_law 328 = .ok (.aload_n 0, 1) := by decide +kernel
theorem dL_law_329 : decode cL_law 329 = .ok (.iload_n 3, 1) := by decide +kernel
theorem dL_law_330 : decode cL_law 330 = .ok (.iconst 1, 1) := by decide +kernel
theorem dL_law_331 : decode cL_law 331 = .ok (.iadd, 1) := by decide +kernel
theorem dL_law_332 : decode cL_law 332 = .ok (.iaload, 1) := by decide +kernel
theorem dL_law_333 : decode cL_law 333 = .ok (.aload_n 0, 1) := by decide +kernel
theorem dL_law_334 : decode cL_law 334 = .ok (.iload_n 3, 1) := by decide +kernel
theorem dL_law_335 : decode cL_law 335 = .ok (.iconst 2, 1) := by decide +kernel
theorem dL_law_336 : decode cL_law 336 = .ok (.iadd, 1) := by decide +kernel
theorem dL_law_337 : decode cL_law 337 = .ok (.iaload, 1) := by decide +kernel
theorem dL_law_338 : decode cL_law 338 = .ok (.invokevirtual 52, 3) := by decide +kernel
theorem dL_law_341 : decode cL_law 341 = .ok (.aload_n 2, 1) := by decide +kernel
theorem dL_law_342 : decode cL_law 342 = .ok (.aload_n 0, 1) := by decide +kernel
theorem dL_law_343 : decode cL_law 343 = .ok (.iload_n 3, 1) := by decide +kernel
theorem dL_law_344 : decode cL_law 344 = .ok (.iconst 1, 1) := by decide +kernel
theorem dL_law_345 : decode cL_law 345 = .ok (.iadd, 1) := by decide +kernel
theorem dL_law_346 : decode cL_law 346 = .ok (.iaload, 1) := by decide +kernel
theorem dL_law_347 : decode cL_law 347 = .ok (.aload_n 0, 1) := by decide +kernel
theorem dL_law_348 : decode cL_law 348 = .ok (.iload_n 3, 1) := by decide +kernel
theorem dL_law_349 : decode cL_law 349 = .ok (.iconst 2, 1) := by decide +kernel
theorem dL_law_350 : decode cL_law 350 = .ok (.iadd, 1) := by decide +kernel
theorem dL_law_351 : decode cL_law 351 = .ok (.iaload, 1) := by decide +kernel
theorem dL_law_352 : decode cL_law 352 = .ok (.invokevirtual 55, 3) := by decide +kernel
theorem dL_law_355 : decode cL_law 355 = .ok (.if_icmp .eq 286, 3) := by decide +kernel
theorem dL_law_358 : decode cL_law 358 = .ok (.iconst 0, 1) := by decide +kernel
theorem dL_law_359 : decode cL_law 359 = .ok (.ireturn, 1) := by decide +kernel
theorem dL_law_360 : decode cL_law 360 = .ok (.aload_n 1, 1) := by decide +kernel
theorem dL_law_361 : decode cL_law 361 = .ok (.aload_n 0, 1) := by decide +kernel
theorem dL_law_362 : decode cL_law 362 = .ok (.iload_n 3, 1) := by decide +kernel
theorem dL_law_363 : decode cL_law 363 = .ok (.iconst 1, 1) := by decide +kernel
theorem dL_law_364 : decode cL_law 364 = .ok (.iadd, 1) := by decide +kernel
theorem dL_law_365 : decode cL_law 365 = .ok (.iaload, 1) := by decide +kernel
theorem dL_law_366 : decode cL_law 366 = .ok (.i2c, 1) := by decide +kernel
theorem dL_law_367 : decode cL_law 367 = .ok (.invokevirtual 56, 3) := by decide +kernel
theorem dL_law_370 : decode cL_law 370 = .ok (.aload_n 2, 1) := by decide +kernel
theorem dL_law_371 : decode cL_law 371 = .ok (.aload_n 0, 1) := by decide +kernel
theorem dL_law_372 : decode cL_law 372 = .ok (.iload_n 3, 1) := by decide +kernel
theorem dL_law_373 : decode cL_law 373 = .ok (.iconst 1, 1) := by decide +kernel
theorem dL_law_374 : decode cL_law 374 = .ok (.iadd, 1) := by decide +kernel
theorem dL_law_375 : decode cL_law 375 = .ok (.iaload, 1) := by decide +kernel
theorem dL_law_376 : decode cL_law 376 = .ok (.i2c, 1) := by decide +kernel
theorem dL_law_377 : decode cL_law 377 = .ok (.invokevirtual 60, 3) := by decide +kernel
theorem dL_law_380 : decode cL_law 380 = .ok (.if_icmp .eq 261, 3) := by decide +kernel
theorem dL_law_383 : decode cL_law 383 = .ok (.iconst 0, 1) := by decide +kernel
theorem dL_law_384 : decode cL_law 384 = .ok (.ireturn, 1) := by decide +kernel
theorem dL_law_385 : decode cL_law 385 = .ok (.aload_n 1, 1) := by decide +kernel
theorem dL_law_386 : decode cL_law 386 = .ok (.invokevirtual 61, 3) := by decide +kernel
theorem dL_law_389 : decode cL_law 389 = .ok (.aload_n 2, 1) := by decide +kernel
theorem dL_law_390 : decode cL_law 390 = .ok (.invokevirtual 64, 3) := by decide +kernel
theorem dL_law_393 : decode cL_law 393 = .ok (.if_icmp .eq 248, 3) := by decide +kernel
theorem dL_law_396 : decode cL_law 396 = .ok (.iconst 0, 1) := by decide +kernel
theorem dL_law_397 : decode cL_law 397 = .ok (.ireturn, 1) := by decide +kernel
theorem dL_law_398 : decode cL_law 398 = .ok (.aload_n 1, 1) := by decide +kernel
theorem dL_law_399 : decode cL_law 399 = .ok (.invokevirtual 65, 3) := by decide +kernel
theorem dL_law_402 : decode cL_law 402 = .ok (.aload_n 2, 1) := by decide +kernel
theorem dL_law_403 : decode cL_law 403 = .ok (.invokevirtual 68, 3) := by decide +kernel
theorem dL_law_406 : decode cL_law 406 = .ok (.if_icmp .eq 235, 3) := by decide +kernel
theorem dL_law_409 : decode cL_law 409 = .ok (.iconst 0, 1) := by decide +kernel
theorem dL_law_410 : decode cL_law 410 = .ok (.ireturn, 1) := by decide +kernel
theorem dL_law_411 : decode cL_law 411 = .ok (.aload_n 1, 1) := by decide +kernel
theorem dL_law_412 : decode cL_law 412 = .ok (.invokevirtual 69, 3) := by decide +kernel
theorem dL_law_415 : decode cL_law 415 = .ok (.aload_n 2, 1) := by decide +kernel
theorem dL_law_416 : decode cL_law 416 = .ok (.invokevirtual 72, 3) := by decide +kernel
theorem dL_law_419 : decode cL_law 419 = .ok (.if_icmp .eq 222, 3) := by decide +kernel
theorem dL_law_422 : decode cL_law 422 = .ok (.iconst 0, 1) := by decide +kernel
theorem dL_law_423 : decode cL_law 423 = .ok (.ireturn, 1) := by decide +kernel
theorem dL_law_424 : decode cL_law 424 = .ok (.aload_n 1, 1) := by decide +kernel
theorem dL_law_425 : decode cL_law 425 = .ok (.invokevirtual 73, 3) := by decide +kernel
theorem dL_law_428 : decode cL_law 428 = .ok (.aload_n 2, 1) := by decide +kernel
theorem dL_law_429 : decode cL_law 429 = .ok (.invokevirtual 76, 3) := by decide +kernel
theorem dL_law_432 : decode cL_law 432 = .ok (.if_icmp .eq 209, 3) := by decide +kernel
theorem dL_law_435 : decode cL_law 435 = .ok (.iconst 0, 1) := by decide +kernel
theorem dL_law_436 : decode cL_law 436 = .ok (.ireturn, 1) := by decide +kernel
theorem dL_law_437 : decode cL_law 437 = .ok (.aload_n 1, 1) := by decide +kernel
theorem dL_law_438 : decode cL_law 438 = .ok (.aload_n 0, 1) := by decide +kernel
theorem dL_law_439 : decode cL_law 439 = .ok (.iload_n 3, 1) := by decide +kernel
theorem dL_law_440 : decode cL_law 440 = .ok (.iconst 1, 1) := by decide +kernel
theorem dL_law_441 : decode cL_law 441 = .ok (.iadd, 1) := by decide +kernel
theorem dL_law_442 : decode cL_law 442 = .ok (.iaload, 1) := by decide +kernel
theorem dL_law_443 : decode cL_law 443 = .ok (.aload_n 0, 1) := by decide +kernel
theorem dL_law_444 : decode cL_law 444 = .ok (.iload_n 3, 1) := by decide +kernel
theorem dL_law_445 : decode cL_law 445 = .ok (.iconst 2, 1) := by decide +kernel
theorem dL_law_446 : decode cL_law 446 = .ok (.iadd, 1) := by decide +kernel
theorem dL_law_447 : decode cL_law 447 = .ok (.iaload, 1) := by decide +kernel
theorem dL_law_448 : decode cL_law 448 = .ok (.invokevirtual 77, 3) := by decide +kernel
theorem dL_law_451 : decode cL_law 451 = .ok (.aload_n 2, 1) := by decide +kernel
theorem dL_law_452 : decode cL_law 452 = .ok (.aload_n 0, 1) := by decide +kernel
theorem dL_law_453 : decode cL_law 453 = .ok (.iload_n 3, 1) := by decide +kernel
theorem dL_law_454 : decode cL_law 454 = .ok (.iconst 1, 1) := by decide +kernel
theorem dL_law_455 : decode cL_law 455 = .ok (.iadd, 1) := by decide +kernel
theorem dL_law_456 : decode cL_law 456 = .ok (.iaload, 1) := by decide +kernel
theorem dL_law_457 : decode cL_law 457 = .ok (.aload_n 0, 1) := by decide +kernel
theorem dL_law_458 : decode cL_law 458 = .ok (.iload_n 3, 1) := by decide +kernel
theorem dL_law_459 : decode cL_law 459 = .ok (.iconst 2, 1) := by decide +kernel
theorem dL_law_460 : decode cL_law 460 = .ok (.iadd, 1) := by decide +kernel
theorem dL_law_461 : decode cL_law 461 = .ok (.iaload, 1) := by decide +kernel
theorem dL_law_462 : decode cL_law 462 = .ok (.invokevirtual 80, 3) := by decide +kernel
theorem dL_law_465 : decode cL_law 465 = .ok (.if_icmp .eq 176, 3) := by decide +kernel
theorem dL_law_468 : decode cL_law 468 = .ok (.iconst 0, 1) := by decide +kernel
theorem dL_law_469 : decode cL_law 469 = .ok (.ireturn, 1) := by decide +kernel
theorem dL_law_470 : decode cL_law 470 = .ok (.aload_n 1, 1) := by decide +kernel
theorem dL_law_471 : decode cL_law 471 = .ok (.aload_n 0, 1) := by decide +kernel
theorem dL_law_472 : decode cL_law 472 = .ok (.iload_n 3, 1) := by decide +kernel
theorem dL_law_473 : decode cL_law 473 = .ok (.iconst 1, 1) := by decide +kernel
theorem dL_law_474 : decode cL_law 474 = .ok (.iadd, 1) := by decide +kernel
theorem dL_law_475 : decode cL_law 475 = .ok (.iaload, 1) := by decide +kernel
theorem dL_law_476 : decode cL_law 476 = .ok (.aload_n 0, 1) := by decide +kernel
theorem dL_law_477 : decode cL_law 477 = .ok (.iload_n 3, 1) := by decide +kernel
theorem dL_law_478 : decode cL_law 478 = .ok (.iconst 2, 1) := by decide +kernel
theorem dL_law_479 : decode cL_law 479 = .ok (.iadd, 1) := by decide +kernel
theorem dL_law_480 : decode cL_law 480 = .ok (.iaload, 1) := by decide +kernel
theorem dL_law_481 : decode cL_law 481 = .ok (.invokevirtual 81, 3) := by decide +kernel
theorem dL_law_484 : decode cL_law 484 = .ok (.aload_n 2, 1) := by decide +kernel
theorem dL_law_485 : decode cL_law 485 = .ok (.aload_n 0, 1) := by decide +kernel
theorem dL_law_486 : decode cL_law 486 = .ok (.iload_n 3, 1) := by decide +kernel
theorem dL_law_487 : decode cL_law 487 = .ok (.iconst 1, 1) := by decide +kernel
theorem dL_law_488 : decode cL_law 488 = .ok (.iadd, 1) := by decide +kernel
theorem dL_law_489 : decode cL_law 489 = .ok (.iaload, 1) := by decide +kernel
theorem dL_law_490 : decode cL_law 490 = .ok (.aload_n 0, 1) := by decide +kernel
theorem dL_law_491 : decode cL_law 491 = .ok (.iload_n 3, 1) := by decide +kernel
theorem dL_law_492 : decode cL_law 492 = .ok (.iconst 2, 1) := by decide +kernel
theorem dL_law_493 : decode cL_law 493 = .ok (.iadd, 1) := by decide +kernel
theorem dL_law_494 : decode cL_law 494 = .ok (.iaload, 1) := by decide +kernel
theorem dL_law_495 : decode cL_law 495 = .ok (.invokevirtual 84, 3) := by decide +kernel
theorem dL_law_498 : decode cL_law 498 = .ok (.if_icmp .eq 143, 3) := by decide +kernel
theorem dL_law_501 : decode cL_law 501 = .ok (.iconst 0, 1) := by decide +kernel
theorem dL_law_502 : decode cL_law 502 = .ok (.ireturn, 1) := by decide +kernel
theorem dL_law_503 : decode cL_law 503 = .ok (.aload_n 1, 1) := by decide +kernel
theorem dL_law_504 : decode cL_law 504 = .ok (.aload_n 0, 1) := by decide +kernel
theorem dL_law_505 : decode cL_law 505 = .ok (.iload_n 3, 1) := by decide +kernel
theorem dL_law_506 : decode cL_law 506 = .ok (.iconst 1, 1) := by decide +kernel
theorem dL_law_507 : decode cL_law 507 = .ok (.iadd, 1) := by decide +kernel
theorem dL_law_508 : decode cL_law 508 = .ok (.iaload, 1) := by decide +kernel
theorem dL_law_509 : decode cL_law 509 = .ok (.aload_n 0, 1) := by decide +kernel
theorem dL_law_510 : decode cL_law 510 = .ok (.iload_n 3, 1) := by decide +kernel
theorem dL_law_511 : decode cL_law 511 = .ok (.iconst 2, 1) := by decide +kernel
theorem dL_law_512 : decode cL_law 512 = .ok (.iadd, 1) := by decide +kernel
theorem dL_law_513 : decode cL_law 513 = .ok (.iaload, 1) := by decide +kernel
theorem dL_law_514 : decode cL_law 514 = .ok (.invokevirtual 85, 3) := by decide +kernel
theorem dL_law_517 : decode cL_law 517 = .ok (.aload_n 2, 1) := by decide +kernel
theorem dL_law_518 : decode cL_law 518 = .ok (.aload_n 0, 1) := by decide +kernel
theorem dL_law_519 : decode cL_law 519 = .ok (.iload_n 3, 1) := by decide +kernel
theorem dL_law_520 : decode cL_law 520 = .ok (.iconst 1, 1) := by decide +kernel
theorem dL_law_521 : decode cL_law 521 = .ok (.iadd, 1) := by decide +kernel
theorem dL_law_522 : decode cL_law 522 = .ok (.iaload, 1) := by decide +kernel
theorem dL_law_523 : decode cL_law 523 = .ok (.aload_n 0, 1) := by decide +kernel
theorem dL_law_524 : decode cL_law 524 = .ok (.iload_n 3, 1) := by decide +kernel
theorem dL_law_525 : decode cL_law 525 = .ok (.iconst 2, 1) := by decide +kernel
theorem dL_law_526 : decode cL_law 526 = .ok (.iadd, 1) := by decide +kernel
theorem dL_law_527 : decode cL_law 527 = .ok (.iaload, 1) := by decide +kernel
theorem dL_law_528 : decode cL_law 528 = .ok (.invokevirtual 88, 3) := by decide +kernel
theorem dL_law_531 : decode cL_law 531 = .ok (.if_icmp .eq 110, 3) := by decide +kernel
theorem dL_law_534 : decode cL_law 534 = .ok (.iconst 0, 1) := by decide +kernel
theorem dL_law_535 : decode cL_law 535 = .ok (.ireturn, 1) := by decide +kernel
theorem dL_law_536 : decode cL_law 536 = .ok (.aload_n 1, 1) := by decide +kernel
theorem dL_law_537 : decode cL_law 537 = .ok (.aload_n 0, 1) := by decide +kernel
theorem dL_law_538 : decode cL_law 538 = .ok (.iload_n 3, 1) := by decide +kernel
theorem dL_law_539 : decode cL_law 539 = .ok (.iconst 1, 1) := by decide +kernel
theorem dL_law_540 : decode cL_law 540 = .ok (.iadd, 1) := by decide +kernel
theorem dL_law_541 : decode cL_law 541 = .ok (.iaload, 1) := by decide +kernel
theorem dL_law_542 : decode cL_law 542 = .ok (.invokevirtual 89, 3) := by decide +kernel
theorem dL_law_545 : decode cL_law 545 = .ok (.aload_n 2, 1) := by decide +kernel
theorem dL_law_546 : decode cL_law 546 = .ok (.aload_n 0, 1) := by decide +kernel
theorem dL_law_547 : decode cL_law 547 = .ok (.iload_n 3, 1) := by decide +kernel
theorem dL_law_548 : decode cL_law 548 = .ok (.iconst 1, 1) := by decide +kernel
theorem dL_law_549 : decode cL_law 549 = .ok (.iadd, 1) := by decide +kernel
theorem dL_law_550 : decode cL_law 550 = .ok (.iaload, 1) := by decide +kernel
theorem dL_law_551 : decode cL_law 551 = .ok (.invokevirtual 92, 3) := by decide +kernel
theorem dL_law_554 : decode cL_law 554 = .ok (.if_icmp .eq 87, 3) := by decide +kernel
theorem dL_law_557 : decode cL_law 557 = .ok (.iconst 0, 1) := by decide +kernel
theorem dL_law_558 : decode cL_law 558 = .ok (.ireturn, 1) := by decide +kernel
theorem dL_law_559 : decode cL_law 559 = .ok (.aload_n 1, 1) := by decide +kernel
theorem dL_law_560 : decode cL_law 560 = .ok (.aload_n 0, 1) := by decide +kernel
theorem dL_law_561 : decode cL_law 561 = .ok (.iload_n 3, 1) := by decide +kernel
theorem dL_law_562 : decode cL_law 562 = .ok (.iconst 1, 1) := by decide +kernel
theorem dL_law_563 : decode cL_law 563 = .ok (.iadd, 1) := by decide +kernel
theorem dL_law_564 : decode cL_law 564 = .ok (.iaload, 1) := by decide +kernel
theorem dL_law_565 : decode cL_law 565 = .ok (.invokevirtual 93, 3) := by decide +kernel
theorem dL_law_568 : decode cL_law 568 = .ok (.aload_n 2, 1) := by decide +kernel
theorem dL_law_569 : decode cL_law 569 = .ok (.aload_n 0, 1) := by decide +kernel
theorem dL_law_570 : decode cL_law 570 = .ok (.iload_n 3, 1) := by decide +kernel
theorem dL_law_571 : decode cL_law 571 = .ok (.iconst 1, 1) := by decide +kernel
theorem dL_law_572 : decode cL_law 572 = .ok (.iadd, 1) := by decide +kernel
theorem dL_law_573 : decode cL_law 573 = .ok (.iaload, 1) := by decide +kernel
theorem dL_law_574 : decode cL_law 574 = .ok (.invokevirtual 96, 3) := by decide +kernel
theorem dL_law_577 : decode cL_law 577 = .ok (.if_icmp .eq 64, 3) := by decide +kernel
theorem dL_law_580 : decode cL_law 580 = .ok (.iconst 0, 1) := by decide +kernel
theorem dL_law_581 : decode cL_law 581 = .ok (.ireturn, 1) := by decide +kernel
theorem dL_law_582 : decode cL_law 582 = .ok (.aload_n 1, 1) := by decide +kernel
theorem dL_law_583 : decode cL_law 583 = .ok (.invokevirtual 97, 3) := by decide +kernel
theorem dL_law_586 : decode cL_law 586 = .ok (.aload_n 2, 1) := by decide +kernel
theorem dL_law_587 : decode cL_law 587 = .ok (.invokevirtual 100, 3) := by decide +kernel
theorem dL_law_590 : decode cL_law 590 = .ok (.if_icmp .eq 51, 3) := by decide +kernel
theorem dL_law_593 : decode cL_law 593 = .ok (.iconst 0, 1) := by decide +kernel
theorem dL_law_594 : decode cL_law 594 = .ok (.ireturn, 1) := by decide +kernel
theorem dL_law_595 : decode cL_law 595 = .ok (.aload_n 1, 1) := by decide +kernel
theorem dL_law_596 : decode cL_law 596 = .ok (.aload_n 0, 1) := by decide +kernel
theorem dL_law_597 : decode cL_law 597 = .ok (.iload_n 3, 1) := by decide +kernel
theorem dL_law_598 : decode cL_law 598 = .ok (.iconst 1, 1) := by decide +kernel
theorem dL_law_599 : decode cL_law 599 = .ok (.iadd, 1) := by decide +kernel
theorem dL_law_600 : decode cL_law 600 = .ok (.iaload, 1) := by decide +kernel
theorem dL_law_601 : decode cL_law 601 = .ok (.invokevirtual 101, 3) := by decide +kernel
theorem dL_law_604 : decode cL_law 604 = .ok (.aload_n 2, 1) := by decide +kernel
theorem dL_law_605 : decode cL_law 605 = .ok (.aload_n 0, 1) := by decide +kernel
theorem dL_law_606 : decode cL_law 606 = .ok (.iload_n 3, 1) := by decide +kernel
theorem dL_law_607 : decode cL_law 607 = .ok (.iconst 1, 1) := by decide +kernel
theorem dL_law_608 : decode cL_law 608 = .ok (.iadd, 1) := by decide +kernel
theorem dL_law_609 : decode cL_law 609 = .ok (.iaload, 1) := by decide +kernel
theorem dL_law_610 : decode cL_law 610 = .ok (.invokevirtual 104, 3) := by decide +kernel
theorem dL_law_613 : decode cL_law 613 = .ok (.if_icmp .eq 28, 3) := by decide +kernel
theorem dL_law_616 : decode cL_law 616 = .ok (.iconst 0, 1) := by decide +kernel
theorem dL_law_617 : decode cL_law 617 = .ok (.ireturn, 1) := by decide +kernel
theorem dL_law_618 : decode cL_law 618 = .ok (.aload_n 1, 1) := by decide +kernel
theorem dL_law_619 : decode cL_law 619 = .ok (.aload_n 0, 1) := by decide +kernel
theorem dL_law_620 : decode cL_law 620 = .ok (.iload_n 3, 1) := by decide +kernel
theorem dL_law_621 : decode cL_law 621 = .ok (.iconst 1, 1) := by decide +kernel
theorem dL_law_622 : decode cL_law 622 = .ok (.iadd, 1) := by decide +kernel
theorem dL_law_623 : decode cL_law 623 = .ok (.iaload, 1) := by decide +kernel
theorem dL_law_624 : decode cL_law 624 = .ok (.invokevirtual 105, 3) := by decide +kernel
theorem dL_law_627 : decode cL_law 627 = .ok (.aload_n 2, 1) := by decide +kernel
theorem dL_law_628 : decode cL_law 628 = .ok (.aload_n 0, 1) := by decide +kernel
theorem dL_law_629 : decode cL_law 629 = .ok (.iload_n 3, 1) := by decide +kernel
theorem dL_law_630 : decode cL_law 630 = .ok (.iconst 1, 1) := by decide +kernel
theorem dL_law_631 : decode cL_law 631 = .ok (.iadd, 1) := by decide +kernel
theorem dL_law_632 : decode cL_law 632 = .ok (.iaload, 1) := by decide +kernel
theorem dL_law_633 : decode cL_law 633 = .ok (.invokevirtual 108, 3) := by decide +kernel
theorem dL_law_636 : decode cL_law 636 = .ok (.if_icmp .eq 5, 3) := by decide +kernel
theorem dL_law_639 : decode cL_law 639 = .ok (.iconst 0, 1) := by decide +kernel
theorem dL_law_640 : decode cL_law 640 = .ok (.ireturn, 1) := by decide +kernel
theorem dL_law_641 : decode cL_law 641 = .ok (.iinc 3 3, 3) := by decide +kernel
theorem dL_law_644 : decode cL_law 644 = .ok (.goto (-626), 3) := by decide +kernel
theorem dL_law_647 : decode cL_law 647 = .ok (.iconst 1, 1) := by decide +kernel
theorem dL_law_648 : decode cL_law 648 = .ok (.ireturn, 1) := by decide +kernel
abbrev vwCl : List vw_C := [(RX0, TX0, 4), (RX1, TX1, 2), (RX2, TX2, 2), (RX3, TX3, 1), (RX4, TX4, 4), (RX5, TX5, 5), (RX6, TX6, 10), (RX7, TX7, 7), (RX8, TX8, 13)]
