set_option maxRecDepth 20000 in
theorem ggX0_init_X3_init : GoodIn wsX0_init wsX3_init := goodIn_r _ [13, 14, 2, 3, 15, 16, 17, 18, 19, 20, 21] (by decide +kernel) (by decide +kernel)
set_option maxRecDepth 20000 in
theorem gX0_init_X3_init : GoodIn wsX0_init (wsX3_init) := ggX0_init_X3_init
theorem dX0_init_0 : decode cX0_init 0 = .ok (.aload_n 0, 1) := by decide +kernel
theorem dX0_init_1 : decode cX0_init 1 = .ok (.invokespecial 3, 3) := by decide +kernel
theorem dX0_init_4 : decode cX0_init 4 = .ok (.aload_n 0, 1) := by decide +kernel
theorem dX0_init_5 : decode cX0_init 5 = .ok (.new 9, 3) := by decide +kernel
theorem dX0_init_8 : decode cX0_init 8 = .ok (.dup, 1) := by decide +kernel
theorem dX0_init_9 : decode cX0_init 9 = .ok (.bipush 30, 2) := by decide +kernel
theorem dX0_init_11 : decode cX0_init 11 = .ok (.invokespecial 11, 3) := by decide +kernel
theorem dX0_init_14 : decode cX0_init 14 = .ok (.putfield 14, 3) := by decide +kernel
theorem dX0_init_17 : decode cX0_init 17 = .ok (.aload_n 0, 1) := by decide +kernel
theorem dX0_init_18 : decode cX0_init 18 = .ok (.new 9, 3) := by decide +kernel
theorem dX0_init_21 : decode cX0_init 21 = .ok (.dup, 1) := by decide +kernel
theorem dX0_init_22 : decode cX0_init 22 = .ok (.bipush 30, 2) := by decide +kernel
theorem dX0_init_24 : decode cX0_init 24 = .ok (.invokespecial 11, 3) := by decide +kernel
theorem dX0_init_27 : decode cX0_init 27 = .ok (.putfield 20, 3) := by decide +kernel
theorem dX0_init_30 : decode cX0_init 30 = .ok (.aload_n 0, 1) := by decide +kernel
theorem dX0_init_31 : decode cX0_init 31 = .ok (.new 9, 3) := by decide +kernel
theorem dX0_init_34 : decode cX0_init 34 = .ok (.dup, 1) := by decide +kernel
theorem dX0_init_35 : decode cX0_init 35 = .ok (.bipush 60, 2) := by decide +kernel
theorem dX0_init_37 : decode cX0_init 37 = .ok (.invokespecial 11, 3) := by decide +kernel
theorem dX0_init_40 : decode cX0_init 40 = .ok (.putfield 23, 3) := by decide +kernel
theorem dX0_init_43 : decode cX0_init 43 = .ok (.aload_n 0, 1) := by decide +kernel
theorem dX0_init_44 : decode cX0_init 44 = .ok (.iconst 0, 1) := by decide +kernel
theorem dX0_init_45 : decode cX0_init 45 = .ok (.putfield 26, 3) := by decide +kernel
theorem dX0_init_48 : decode cX0_init 48 = .ok (.return_, 1) := by decide +kernel
theorem dX0_pages_0 : decode cX0_pages 0 = .ok (.iconst 2, 1) := by decide +kernel
theorem dX0_pages_1 : decode cX0_pages 1 = .ok (.aload_n 0, 1) := by decide +kernel
theorem dX0_pages_2 : decode cX0_pages 2 = .ok (.getfield 26, 3) := by decide +kernel
theorem dX0_pages_5 : decode cX0_pages 5 = .ok (.imul, 1) := by decide +kernel
theorem dX0_pages_6 : decode cX0_pages 6 = .ok (.ireturn, 1) := by decide +kernel
set_option maxRecDepth 20000 in
theorem ggX0_hasPage_X0_pages : GoodIn wsX0_hasPage wsX0_pages := goodIn_r _ [5, 6, 7, 8, 9, 10] (by decide +kernel) (by decide +kernel)
set_option maxRecDepth 20000 in
theorem gX0_hasPage_X0_pages : GoodIn wsX0_hasPage (wsV RX0 30 RX0 yX0_pages wsX0_pages) := goodIn_app (goodIn_of _ (by decide +kernel)) ggX0_hasPage_X0_pages
theorem dX0_hasPage_0 : decode cX0_hasPage 0 = .ok (.iload_n 1, 1) := by decide +kernel
theorem dX0_hasPage_1 : decode cX0_hasPage 1 = .ok (.ifCond .lt 15, 3) := by decide +kernel
theorem dX0_hasPage_4 : decode cX0_hasPage 4 = .ok (.iload_n 1, 1) := by decide +kernel
theorem dX0_hasPage_5 : decode cX0_hasPage 5 = .ok (.aload_n 0, 1) := by decide +kernel
theorem dX0_hasPage_6 : decode cX0_hasPage 6 = .ok (.invokevirtual 30, 3) := by decide +kernel
theorem dX0_hasPage_9 : decode cX0_hasPage 9 = .ok (.if_icmp .ge 7, 3) := by decide +kernel
theorem dX0_hasPage_12 : decode cX0_hasPage 12 = .ok (.iconst 1, 1) := by decide +kernel
theorem dX0_hasPage_13 : decode cX0_hasPage 13 = .ok (.goto 4, 3) := by decide +kernel
theorem dX0_hasPage_16 : decode cX0_hasPage 16 = .ok (.iconst 0, 1) := by decide +kernel
theorem dX0_hasPage_17 : decode cX0_hasPage 17 = .ok (.ireturn, 1) := by decide +kernel
set_option maxRecDepth 20000 in
theorem ggX0_addLeaf_X3_put : GoodIn wsX0_addLeaf wsX3_put := goodIn_r _ [9, 10, 11, 12, 13, 8, 14, 19] (by decide +kernel) (by decide +kernel)
set_option maxRecDepth 20000 in
theorem gX0_addLeaf_X3_put : GoodIn wsX0_addLeaf (wsV RX0 34 RX3 yX3_put wsX3_put) := goodIn_app (goodIn_of _ (by decide +kernel)) ggX0_addLeaf_X3_put
theorem dX0_addLeaf_0 : decode cX0_addLeaf 0 = .ok (.aload_n 0, 1) := by decide +kernel
theorem dX0_addLeaf_1 : decode cX0_addLeaf 1 = .ok (.getfield 26, 3) := by decide +kernel
theorem dX0_addLeaf_4 : decode cX0_addLeaf 4 = .ok (.bipush 30, 2) := by decide +kernel
theorem dX0_addLeaf_6 : decode cX0_addLeaf 6 = .ok (.if_icmp .lt 4, 3) := by decide +kernel
theorem dX0_addLeaf_9 : decode cX0_addLeaf 9 = .ok (.return_, 1) := by decide +kernel
theorem dX0_addLeaf_10 : decode cX0_addLeaf 10 = .ok (.iconst 2, 1) := by decide +kernel
theorem dX0_addLeaf_11 : decode cX0_addLeaf 11 = .ok (.aload_n 0, 1) := by decide +kernel
theorem dX0_addLeaf_12 : decode cX0_addLeaf 12 = .ok (.getfield 26, 3) := by decide +kernel
theorem dX0_addLeaf_15 : decode cX0_addLeaf 15 = .ok (.imul, 1) := by decide +kernel
theorem dX0_addLeaf_16 : decode cX0_addLeaf 16 = .ok (.istore_n 3, 1) := by decide +kernel
theorem dX0_addLeaf_17 : decode cX0_addLeaf 17 = .ok (.aload_n 0, 1) := by decide +kernel
theorem dX0_addLeaf_18 : decode cX0_addLeaf 18 = .ok (.getfield 14, 3) := by decide +kernel
theorem dX0_addLeaf_21 : decode cX0_addLeaf 21 = .ok (.aload_n 0, 1) := by decide +kernel
theorem dX0_addLeaf_22 : decode cX0_addLeaf 22 = .ok (.getfield 26, 3) := by decide +kernel
theorem dX0_addLeaf_25 : decode cX0_addLeaf 25 = .ok (.iload_n 1, 1) := by decide +kernel
theorem dX0_addLeaf_26 : decode cX0_addLeaf 26 = .ok (.invokevirtual 34, 3) := by decide +kernel
theorem dX0_addLeaf_29 : decode cX0_addLeaf 29 = .ok (.aload_n 0, 1) := by decide +kernel
theorem dX0_addLeaf_30 : decode cX0_addLeaf 30 = .ok (.getfield 20, 3) := by decide +kernel
theorem dX0_addLeaf_33 : decode cX0_addLeaf 33 = .ok (.aload_n 0, 1) := by decide +kernel
theorem dX0_addLeaf_34 : decode cX0_addLeaf 34 = .ok (.getfield 26, 3) := by decide +kernel
theorem dX0_addLeaf_37 : decode cX0_addLeaf 37 = .ok (.iload_n 2, 1) := by decide +kernel
theorem dX0_addLeaf_38 : decode cX0_addLeaf 38 = .ok (.invokevirtual 34, 3) := by decide +kernel
theorem dX0_addLeaf_41 : decode cX0_addLeaf 41 = .ok (.aload_n 0, 1) := by decide +kernel
theorem dX0_addLeaf_42 : decode cX0_addLeaf 42 = .ok (.dup, 1) := by decide +kernel
theorem dX0_addLeaf_43 : decode cX0_addLeaf 43 = .ok (.getfield 26, 3) := by decide +kernel
theorem dX0_addLeaf_46 : decode cX0_addLeaf 46 = .ok (.iconst 1, 1) := by decide +kernel
theorem dX0_addLeaf_47 : decode cX0_addLeaf 47 = .ok (.iadd, 1) := by decide +kernel
theorem dX0_addLeaf_48 : decode cX0_addLeaf 48 = .ok (.putfield 26, 3) := by decide +kernel
theorem dX0_addLeaf_51 : decode cX0_addLeaf 51 = .ok (.aload_n 0, 1) := by decide +kernel
theorem dX0_addLeaf_52 : decode cX0_addLeaf 52 = .ok (.getfield 23, 3) := by decide +kernel
theorem dX0_addLeaf_55 : decode cX0_addLeaf 55 = .ok (.iload_n 3, 1) := by decide +kernel
theorem dX0_addLeaf_56 : decode cX0_addLeaf 56 = .ok (.iload_n 3, 1) := by decide +kernel
theorem dX0_addLeaf_57 : decode cX0_addLeaf 57 = .ok (.iconst 1, 1) := by decide +kernel
theorem dX0_addLeaf_58 : decode cX0_addLeaf 58 = .ok (.iadd, 1) := by decide +kernel
theorem dX0_addLeaf_59 : decode cX0_addLeaf 59 = .ok (.invokevirtual 34, 3) := by decide +kernel
theorem dX0_addLeaf_62 : decode cX0_addLeaf 62 = .ok (.aload_n 0, 1) := by decide +kernel
theorem dX0_addLeaf_63 : decode cX0_addLeaf 63 = .ok (.getfield 23, 3) := by decide +kernel
theorem dX0_addLeaf_66 : decode cX0_addLeaf 66 = .ok (.iload_n 3, 1) := by decide +kernel
theorem dX0_addLeaf_67 : decode cX0_addLeaf 67 = .ok (.iconst 1, 1) := by decide +kernel
theorem dX0_addLeaf_68 : decode cX0_addLeaf 68 = .ok (.iadd, 1) := by decide +kernel
theorem dX0_addLeaf_69 : decode cX0_addLeaf 69 = .ok (.iload_n 3, 1) := by decide +kernel
theorem dX0_addLeaf_70 : decode cX0_addLeaf 70 = .ok (.iconst 2, 1) := by decide +kernel
theorem dX0_addLeaf_71 : decode cX0_addLeaf 71 = .ok (.iadd, 1) := by decide +kernel
theorem dX0_addLeaf_72 : decode cX0_addLeaf 72 = .ok (.invokevirtual 34, 3) := by decide +kernel
theorem dX0_addLeaf_75 : decode cX0_addLeaf 75 = .ok (.return_, 1) := by decide +kernel
set_option maxRecDepth 20000 in
theorem ggX0_printNothingOnLast_X0_pages : GoodIn wsX0_printNothingOnLast wsX0_pages := goodIn_r _ [6, 7, 18, 19, 20, 21] (by decide +kernel) (by decide +kernel)
set_option maxRecDepth 20000 in
theorem gX0_printNothingOnLast_X0_pages : GoodIn wsX0_printNothingOnLast (wsV RX0 30 RX0 yX0_pages wsX0_pages) := goodIn_app (goodIn_of _ (by decide +kernel)) ggX0_printNothingOnLast_X0_pages
set_option maxRecDepth 20000 in
theorem ggX0_printNothingOnLast_X3_put : GoodIn wsX0_printNothingOnLast wsX3_put := goodIn_r _ [12, 13, 14, 15, 16, 11, 17, 22] (by decide +kernel) (by decide +kernel)
set_option maxRecDepth 20000 in
theorem gX0_printNothingOnLast_X3_put : GoodIn wsX0_printNothingOnLast (wsV RX0 34 RX3 yX3_put wsX3_put) := goodIn_app (goodIn_of _ (by decide +kernel)) ggX0_printNothingOnLast_X3_put
theorem dX0_printNothingOnLast_0 : decode cX0_printNothingOnLast 0 = .ok (.aload_n 0, 1) := by decide +kernel
theorem dX0_printNothingOnLast_1 : decode cX0_printNothingOnLast 1 = .ok (.getfield 23, 3) := by decide +kernel
theorem dX0_printNothingOnLast_4 : decode cX0_printNothingOnLast 4 = .ok (.aload_n 0, 1) := by decide +kernel
theorem dX0_printNothingOnLast_5 : decode cX0_printNothingOnLast 5 = .ok (.invokevirtual 30, 3) := by decide +kernel
theorem dX0_printNothingOnLast_8 : decode cX0_printNothingOnLast 8 = .ok (.iconst 2, 1) := by decide +kernel
theorem dX0_printNothingOnLast_9 : decode cX0_printNothingOnLast 9 = .ok (.isub, 1) := by decide +kernel
theorem dX0_printNothingOnLast_10 : decode cX0_printNothingOnLast 10 = .ok (.bipush (-5), 2) := by decide +kernel
theorem dX0_printNothingOnLast_12 : decode cX0_printNothingOnLast 12 = .ok (.invokevirtual 34, 3) := by decide +kernel
theorem dX0_printNothingOnLast_15 : decode cX0_printNothingOnLast 15 = .ok (.aload_n 0, 1) := by decide +kernel
theorem dX0_printNothingOnLast_16 : decode cX0_printNothingOnLast 16 = .ok (.getfield 23, 3) := by decide +kernel
theorem dX0_printNothingOnLast_19 : decode cX0_printNothingOnLast 19 = .ok (.aload_n 0, 1) := by decide +kernel
theorem dX0_printNothingOnLast_20 : decode cX0_printNothingOnLast 20 = .ok (.invokevirtual 30, 3) := by decide +kernel
theorem dX0_printNothingOnLast_23 : decode cX0_printNothingOnLast 23 = .ok (.iconst 1, 1) := by decide +kernel
theorem dX0_printNothingOnLast_24 : decode cX0_printNothingOnLast 24 = .ok (.isub, 1) := by decide +kernel
theorem dX0_printNothingOnLast_25 : decode cX0_printNothingOnLast 25 = .ok (.bipush (-5), 2) := by decide +kernel
theorem dX0_printNothingOnLast_27 : decode cX0_printNothingOnLast 27 = .ok (.invokevirtual 34, 3) := by decide +kernel
theorem dX0_printNothingOnLast_30 : decode cX0_printNothingOnLast 30 = .ok (.return_, 1) := by decide +kernel
set_option maxRecDepth 20000 in
theorem ggX0_printTooMuchOnLast_X0_pages : GoodIn wsX0_printTooMuchOnLast wsX0_pages := goodIn_r _ [6, 7, 18, 19, 20, 21] (by decide +kernel) (by decide +kernel)
set_option maxRecDepth 20000 in
theorem gX0_printTooMuchOnLast_X0_pages : GoodIn wsX0_printTooMuchOnLast (wsV RX0 30 RX0 yX0_pages wsX0_pages) := goodIn_app (goodIn_of _ (by decide +kernel)) ggX0_printTooMuchOnLast_X0_pages
set_option maxRecDepth 20000 in
theorem ggX0_printTooMuchOnLast_X3_put : GoodIn wsX0_printTooMuchOnLast wsX3_put := goodIn_r _ [12, 13, 14, 15, 16, 11, 17, 22] (by decide +kernel) (by decide +kernel)
set_option maxRecDepth 20000 in
theorem gX0_printTooMuchOnLast_X3_put : GoodIn wsX0_printTooMuchOnLast (wsV RX0 34 RX3 yX3_put wsX3_put) := goodIn_app (goodIn_of _ (by decide +kernel)) ggX0_printTooMuchOnLast_X3_put
theorem dX0_printTooMuchOnLast_0 : decode cX0_printTooMuchOnLast 0 = .ok (.aload_n 0, 1) := by decide +kernel
theorem dX0_printTooMuchOnLast_1 : decode cX0_printTooMuchOnLast 1 = .ok (.getfield 23, 3) := by decide +kernel
theorem dX0_printTooMuchOnLast_4 : decode cX0_printTooMuchOnLast 4 = .ok (.aload_n 0, 1) := by decide +kernel
theorem dX0_printTooMuchOnLast_5 : decode cX0_printTooMuchOnLast 5 = .ok (.invokevirtual 30, 3) := by decide +kernel
theorem dX0_printTooMuchOnLast_8 : decode cX0_printTooMuchOnLast 8 = .ok (.iconst 2, 1) := by decide +kernel
theorem dX0_printTooMuchOnLast_9 : decode cX0_printTooMuchOnLast 9 = .ok (.isub, 1) := by decide +kernel
theorem dX0_printTooMuchOnLast_10 : decode cX0_printTooMuchOnLast 10 = .ok (.aload_n 0, 1) := by decide +kernel
theorem dX0_printTooMuchOnLast_11 : decode cX0_printTooMuchOnLast 11 = .ok (.invokevirtual 30, 3) := by decide +kernel
theorem dX0_printTooMuchOnLast_14 : decode cX0_printTooMuchOnLast 14 = .ok (.iconst 1, 1) := by decide +kernel
theorem dX0_printTooMuchOnLast_15 : decode cX0_printTooMuchOnLast 15 = .ok (.iadd, 1) := by decide +kernel
theorem dX0_printTooMuchOnLast_16 : decode cX0_printTooMuchOnLast 16 = .ok (.invokevirtual 34, 3) := by decide +kernel
theorem dX0_printTooMuchOnLast_19 : decode cX0_printTooMuchOnLast 19 = .ok (.aload_n 0, 1) := by decide +kernel
theorem dX0_printTooMuchOnLast_20 : decode cX0_printTooMuchOnLast 20 = .ok (.getfield 23, 3) := by decide +kernel
theorem dX0_printTooMuchOnLast_23 : decode cX0_printTooMuchOnLast 23 = .ok (.aload_n 0, 1) := by decide +kernel
theorem dX0_printTooMuchOnLast_24 : decode cX0_printTooMuchOnLast 24 = .ok (.invokevirtual 30, 3) := by decide +kernel
theorem dX0_printTooMuchOnLast_27 : decode cX0_printTooMuchOnLast 27 = .ok (.iconst 1, 1) := by decide +kernel
theorem dX0_printTooMuchOnLast_28 : decode cX0_printTooMuchOnLast 28 = .ok (.isub, 1) := by decide +kernel
theorem dX0_printTooMuchOnLast_29 : decode cX0_printTooMuchOnLast 29 = .ok (.aload_n 0, 1) := by decide +kernel
theorem dX0_printTooMuchOnLast_30 : decode cX0_printTooMuchOnLast 30 = .ok (.invokevirtual 30, 3) := by decide +kernel
theorem dX0_printTooMuchOnLast_33 : decode cX0_printTooMuchOnLast 33 = .ok (.iconst 2, 1) := by decide +kernel
theorem dX0_printTooMuchOnLast_34 : decode cX0_printTooMuchOnLast 34 = .ok (.iadd, 1) := by decide +kernel
theorem dX0_printTooMuchOnLast_35 : decode cX0_printTooMuchOnLast 35 = .ok (.invokevirtual 34, 3) := by decide +kernel
theorem dX0_printTooMuchOnLast_38 : decode cX0_printTooMuchOnLast 38 = .ok (.return_, 1) := by decide +kernel
set_option maxRecDepth 20000 in
theorem ggX0_layBySeed_X0_addLeaf : GoodIn wsX0_layBySeed wsX0_addLeaf := goodIn_r _ [6, 1, 7, 8, 9, 10, 11, 12, 13, 14, 15, 16, 17, 18, 19, 28, 29, 30, 31, 32] (by decide +kernel) (by decide +kernel)
set_option maxRecDepth 20000 in
theorem gX0_layBySeed_X0_addLeaf : GoodIn wsX0_layBySeed (wsV RX0 38 RX0 yX0_addLeaf wsX0_addLeaf) := goodIn_app (goodIn_of _ (by decide +kernel)) ggX0_layBySeed_X0_addLeaf
set_option maxRecDepth 20000 in
theorem ggX0_layBySeed_X0_printNothingOnLast : GoodIn wsX0_layBySeed wsX0_printNothingOnLast := goodIn_r _ [23, 9, 24, 25, 26, 5, 27, 1, 10, 11, 12, 13, 14, 15, 16, 17, 18, 19, 28, 29, 30, 31, 32] (by decide +kernel) (by decide +kernel)
set_option maxRecDepth 20000 in
theorem gX0_layBySeed_X0_printNothingOnLast : GoodIn wsX0_layBySeed (wsV RX0 41 RX0 yX0_printNothingOnLast wsX0_printNothingOnLast) := goodIn_app (goodIn_of _ (by decide +kernel)) ggX0_layBySeed_X0_printNothingOnLast
theorem dX0_layBySeed_0 : decode cX0_layBySeed 0 = .ok (.aload_n 0, 1) := by decide +kernel
theorem dX0_layBySeed_1 : decode cX0_layBySeed 1 = .ok (.iconst 0, 1) := by decide +kernel
theorem dX0_layBySeed_2 : decode cX0_layBySeed 2 = .ok (.putfield 26, 3) := by decide +kernel
theorem dX0_layBySeed_5 : decode cX0_layBySeed 5 = .ok (.iload_n 2, 1) := by decide +kernel
theorem dX0_layBySeed_6 : decode cX0_layBySeed 6 = .ok (.istore_n 3, 1) := by decide +kernel
theorem dX0_layBySeed_7 : decode cX0_layBySeed 7 = .ok (.iconst 0, 1) := by decide +kernel
theorem dX0_layBySeed_8 : decode cX0_layBySeed 8 = .ok (.istore 4, 2) := by decide +kernel
theorem dX0_layBySeed_10 : decode cX0_layBySeed 10 = .ok (.iconst 0, 1) := by decide +kernel
theorem dX0_layBySeed_11 : decode cX0_layBySeed 11 = .ok (.istore 5, 2) := by decide +kernel
theorem dX0_layBySeed_13 : decode cX0_layBySeed 13 = .ok (.iload 5, 2) := by decide +kernel
theorem dX0_layBySeed_15 : decode cX0_layBySeed 15 = .ok (.iload_n 1, 1) := by decide +kernel
theorem dX0_layBySeed_16 : decode cX0_layBySeed 16 = .ok (.if_icmp .ge 79, 3) := by decide +kernel
theorem dX0_layBySeed_19 : decode cX0_layBySeed 19 = .ok (.sipush 421, 3) := by decide +kernel
theorem dX0_layBySeed_22 : decode cX0_layBySeed 22 = .ok (.iload_n 3, 1) := by decide +kernel
theorem dX0_layBySeed_23 : decode cX0_layBySeed 23 = .ok (.imul, 1) := by decide +kernel
theorem dX0_layBySeed_24 : decode cX0_layBySeed 24 = .ok (.sipush 1663, 3) := by decide +kernel
theorem dX0_layBySeed_27 : decode cX0_layBySeed 27 = .ok (.iadd, 1) := by decide +kernel
theorem dX0_layBySeed_28 : decode cX0_layBySeed 28 = .ok (.sipush 10000, 3) := by decide +kernel
theorem dX0_layBySeed_31 : decode cX0_layBySeed 31 = .ok (.irem, 1) := by decide +kernel
theorem dX0_layBySeed_32 : decode cX0_layBySeed 32 = .ok (.istore_n 3, 1) := by decide +kernel
theorem dX0_layBySeed_33 : decode cX0_layBySeed 33 = .ok (.iconst 1, 1) := by decide +kernel
theorem dX0_layBySeed_34 : decode cX0_layBySeed 34 = .ok (.iload_n 3, 1) := by decide +kernel
theorem dX0_layBySeed_35 : decode cX0_layBySeed 35 = .ok (.iconst 5, 1) := by decide +kernel
theorem dX0_layBySeed_36 : decode cX0_layBySeed 36 = .ok (.irem, 1) := by decide +kernel
theorem dX0_layBySeed_37 : decode cX0_layBySeed 37 = .ok (.iadd, 1) := by decide +kernel
theorem dX0_layBySeed_38 : decode cX0_layBySeed 38 = .ok (.istore 6, 2) := by decide +kernel
theorem dX0_layBySeed_40 : decode cX0_layBySeed 40 = .ok (.iload_n 3, 1) := by decide +kernel
theorem dX0_layBySeed_41 : decode cX0_layBySeed 41 = .ok (.bipush 10, 2) := by decide +kernel
theorem dX0_layBySeed_43 : decode cX0_layBySeed 43 = .ok (.idiv, 1) := by decide +kernel
theorem dX0_layBySeed_44 : decode cX0_layBySeed 44 = .ok (.bipush 10, 2) := by decide +kernel
theorem dX0_layBySeed_46 : decode cX0_layBySeed 46 = .ok (.irem, 1) := by decide +kernel
theorem dX0_layBySeed_47 : decode cX0_layBySeed 47 = .ok (.istore 7, 2) := by decide +kernel
theorem dX0_layBySeed_49 : decode cX0_layBySeed 49 = .ok (.aload_n 0, 1) := by decide +kernel
theorem dX0_layBySeed_50 : decode cX0_layBySeed 50 = .ok (.iload 6, 2) := by decide +kernel
theorem dX0_layBySeed_52 : decode cX0_layBySeed 52 = .ok (.iload 7, 2) := by decide +kernel
theorem dX0_layBySeed_54 : decode cX0_layBySeed 54 = .ok (.bipush 6, 2) := by decide +kernel
theorem dX0_layBySeed_56 : decode cX0_layBySeed 56 = .ok (.if_icmp .ge 7, 3) := by decide +kernel
theorem dX0_layBySeed_59 : decode cX0_layBySeed 59 = .ok (.iconst 0, 1) := by decide +kernel
theorem dX0_layBySeed_60 : decode cX0_layBySeed 60 = .ok (.goto 5, 3) := by decide +kernel
theorem dX0_layBySeed_63 : decode cX0_layBySeed 63 = .ok (.iload 7, 2) := by decide +kernel
theorem dX0_layBySeed_65 : decode cX0_layBySeed 65 = .ok (.invokevirtual 38, 3) := by decide +kernel
theorem dX0_layBySeed_68 : decode cX0_layBySeed 68 = .ok (.iload_n 3, 1) := by decide +kernel
theorem dX0_layBySeed_69 : decode cX0_layBySeed 69 = .ok (.bipush 100, 2) := by decide +kernel
theorem dX0_layBySeed_71 : decode cX0_layBySeed 71 = .ok (.idiv, 1) := by decide +kernel
theorem dX0_layBySeed_72 : decode cX0_layBySeed 72 = .ok (.bipush 8, 2) := by decide +kernel
theorem dX0_layBySeed_74 : decode cX0_layBySeed 74 = .ok (.irem, 1) := by decide +kernel
theorem dX0_layBySeed_75 : decode cX0_layBySeed 75 = .ok (.ifCond .ne 7, 3) := by decide +kernel
theorem dX0_layBySeed_78 : decode cX0_layBySeed 78 = .ok (.aload_n 0, 1) := by decide +kernel
theorem dX0_layBySeed_79 : decode cX0_layBySeed 79 = .ok (.invokevirtual 41, 3) := by decide +kernel
theorem dX0_layBySeed_82 : decode cX0_layBySeed 82 = .ok (.iload 4, 2) := by decide +kernel
theorem dX0_layBySeed_84 : decode cX0_layBySeed 84 = .ok (.iload 6, 2) := by decide +kernel
theorem dX0_layBySeed_86 : decode cX0_layBySeed 86 = .ok (.iadd, 1) := by decide +kernel
theorem dX0_layBySeed_87 : decode cX0_layBySeed 87 = .ok (.istore 4, 2) := by decide +kernel
theorem dX0_layBySeed_89 : decode cX0_layBySeed 89 = .ok (.iinc 5 1, 3) := by decide +kernel
theorem dX0_layBySeed_92 : decode cX0_layBySeed 92 = .ok (.goto (-79), 3) := by decide +kernel
theorem dX0_layBySeed_95 : decode cX0_layBySeed 95 = .ok (.iload 4, 2) := by decide +kernel
theorem dX0_layBySeed_97 : decode cX0_layBySeed 97 = .ok (.ireturn, 1) := by decide +kernel
set_option maxRecDepth 20000 in
theorem ggX0_copyFrom_X3_copyFrom : GoodIn wsX0_copyFrom wsX3_copyFrom := goodIn_r _ [9, 10, 11, 12, 13, 14, 15, 16, 17, 18, 23] (by decide +kernel) (by decide +kernel)
set_option maxRecDepth 20000 in
theorem gX0_copyFrom_X3_copyFrom : GoodIn wsX0_copyFrom (wsV RX0 44 RX3 yX3_copyFrom wsX3_copyFrom) := goodIn_app (goodIn_of _ (by decide +kernel)) ggX0_copyFrom_X3_copyFrom
theorem dX0_copyFrom_0 : decode cX0_copyFrom 0 = .ok (.aload_n 0, 1) := by decide +kernel
theorem dX0_copyFrom_1 : decode cX0_copyFrom 1 = .ok (.getfield 14, 3) := by decide +kernel
theorem dX0_copyFrom_4 : decode cX0_copyFrom 4 = .ok (.aload_n 1, 1) := by decide +kernel
theorem dX0_copyFrom_5 : decode cX0_copyFrom 5 = .ok (.getfield 14, 3) := by decide +kernel
theorem dX0_copyFrom_8 : decode cX0_copyFrom 8 = .ok (.invokevirtual 44, 3) := by decide +kernel
theorem dX0_copyFrom_11 : decode cX0_copyFrom 11 = .ok (.aload_n 0, 1) := by decide +kernel
theorem dX0_copyFrom_12 : decode cX0_copyFrom 12 = .ok (.getfield 20, 3) := by decide +kernel
theorem dX0_copyFrom_15 : decode cX0_copyFrom 15 = .ok (.aload_n 1, 1) := by decide +kernel
theorem dX0_copyFrom_16 : decode cX0_copyFrom 16 = .ok (.getfield 20, 3) := by decide +kernel
theorem dX0_copyFrom_19 : decode cX0_copyFrom 19 = .ok (.invokevirtual 44, 3) := by decide +kernel
theorem dX0_copyFrom_22 : decode cX0_copyFrom 22 = .ok (.aload_n 0, 1) := by decide +kernel
theorem dX0_copyFrom_23 : decode cX0_copyFrom 23 = .ok (.getfield 23, 3) := by decide +kernel
theorem dX0_copyFrom_26 : decode cX0_copyFrom 26 = .ok (.aload_n 1, 1) := by decide +kernel
theorem dX0_copyFrom_27 : decode cX0_copyFrom 27 = .ok (.getfield 23, 3) := by decide +kernel
theorem dX0_copyFrom_30 : decode cX0_copyFrom 30 = .ok (.invokevirtual 44, 3) := by decide +kernel
theorem dX0_copyFrom_33 : decode cX0_copyFrom 33 = .ok (.aload_n 0, 1) := by decide +kernel
theorem dX0_copyFrom_34 : decode cX0_copyFrom 34 = .ok (.aload_n 1, 1) := by decide +kernel
theorem dX0_copyFrom_35 : decode cX0_copyFrom 35 = .ok (.getfield 26, 3) := by decide +kernel
theorem dX0_copyFrom_38 : decode cX0_copyFrom 38 = .ok (.putfield 26, 3) := by decide +kernel
theorem dX0_copyFrom_41 : decode cX0_copyFrom 41 = .ok (.return_, 1) := by decide +kernel
theorem dX1_init_0 : decode cX1_init 0 = .ok (.aload_n 0, 1) := by decide +kernel
theorem dX1_init_1 : decode cX1_init 1 = .ok (.invokespecial 3, 3) := by decide +kernel
theorem dX1_init_4 : decode cX1_init 4 = .ok (.aload_n 0, 1) := by decide +kernel
theorem dX1_init_5 : decode cX1_init 5 = .ok (.bipush 60, 2) := by decide +kernel
theorem dX1_init_7 : decode cX1_init 7 = .ok (.newarray .char, 2) := by decide +kernel
theorem dX1_init_9 : decode cX1_init 9 = .ok (.putfield 9, 3) := by decide +kernel
theorem dX1_init_12 : decode cX1_init 12 = .ok (.aload_n 0, 1) := by decide +kernel
theorem dX1_init_13 : decode cX1_init 13 = .ok (.iconst 0, 1) := by decide +kernel
theorem dX1_init_14 : decode cX1_init 14 = .ok (.putfield 15, 3) := by decide +kernel
theorem dX1_init_17 : decode cX1_init 17 = .ok (.return_, 1) := by decide +kernel
theorem dX1_add_0 : decode cX1_add 0 = .ok (.aload_n 0, 1) := by decide +kernel
theorem dX1_add_1 : decode cX1_add 1 = .ok (.getfield 15, 3) := by decide +kernel
theorem dX1_add_4 : decode cX1_add 4 = .ok (.ifCond .lt 35, 3) := by decide +kernel
theorem dX1_add_7 : decode cX1_add 7 = .ok (.aload_n 0, 1) := by decide +kernel
theorem dX1_add_8 : decode cX1_add 8 = .ok (.getfield 15, 3) := by decide +kernel
theorem dX1_add_11 : decode cX1_add 11 = .ok (.aload_n 0, 1) := by decide +kernel
theorem dX1_add_12 : decode cX1_add 12 = .ok (.getfield 9, 3) := by decide +kernel
theorem dX1_add_15 : decode cX1_add 15 = .ok (.arraylength, 1) := by decide +kernel
theorem dX1_add_16 : decode cX1_add 16 = .ok (.if_icmp .ge 23, 3) := by decide +kernel
theorem dX1_add_19 : decode cX1_add 19 = .ok (.aload_n 0, 1) := by decide +kernel
theorem dX1_add_20 : decode cX1_add 20 = .ok (.getfield 9, 3) := by decide +kernel
theorem dX1_add_23 : decode cX1_add 23 = .ok (.aload_n 0, 1) := by decide +kernel
theorem dX1_add_24 : decode cX1_add 24 = .ok (.getfield 15, 3) := by decide +kernel
theorem dX1_add_27 : decode cX1_add 27 = .ok (.iload_n 1, 1) := by decide +kernel
theorem dX1_add_28 : decode cX1_add 28 = .ok (.castore, 1) := by decide +kernel
theorem dX1_add_29 : decode cX1_add 29 = .ok (.aload_n 0, 1) := by decide +kernel
theorem dX1_add_30 : decode cX1_add 30 = .ok (.dup, 1) := by decide +kernel
theorem dX1_add_31 : decode cX1_add 31 = .ok (.getfield 15, 3) := by decide +kernel
theorem dX1_add_34 : decode cX1_add 34 = .ok (.iconst 1, 1) := by decide +kernel
theorem dX1_add_35 : decode cX1_add 35 = .ok (.iadd, 1) := by decide +kernel
theorem dX1_add_36 : decode cX1_add 36 = .ok (.putfield 15, 3) := by decide +kernel
theorem dX1_add_39 : decode cX1_add 39 = .ok (.return_, 1) := by decide +kernel
set_option maxRecDepth 20000 in
theorem ggX1_readInto_X1_isDigit : GoodIn wsX1_readInto wsX1_isDigit := goodIn_r _ [6, 7, 8, 9, 10, 5, 11, 1, 59, 60] (by decide +kernel) (by decide +kernel)
set_option maxRecDepth 20000 in
theorem gX1_readInto_X1_isDigit : GoodIn wsX1_readInto (wsV RX1 24 RX1 yX1_isDigit wsX1_isDigit) := goodIn_app (goodIn_of _ (by decide +kernel)) ggX1_readInto_X1_isDigit
set_option maxRecDepth 20000 in
theorem ggX1_readInto_X1_digit : GoodIn wsX1_readInto wsX1_digit := goodIn_r _ [15, 7, 8, 9, 10, 5, 11, 1, 59, 60] (by decide +kernel) (by decide +kernel)
set_option maxRecDepth 20000 in
theorem gX1_readInto_X1_digit : GoodIn wsX1_readInto (wsV RX1 28 RX1 yX1_digit wsX1_digit) := goodIn_app (goodIn_of _ (by decide +kernel)) ggX1_readInto_X1_digit
set_option maxRecDepth 20000 in
theorem ggX1_readInto_X1_is : GoodIn wsX1_readInto wsX1_is := goodIn_r _ [19, 7, 8, 9, 10, 5, 11, 1, 59, 60] (by decide +kernel) (by decide +kernel)
set_option maxRecDepth 20000 in
theorem gX1_readInto_X1_is : GoodIn wsX1_readInto (wsV RX1 32 RX1 yX1_is wsX1_is) := goodIn_app (goodIn_of _ (by decide +kernel)) ggX1_readInto_X1_is
set_option maxRecDepth 20000 in
theorem ggX1_readInto_X0_addLeaf : GoodIn wsX1_readInto wsX0_addLeaf := goodIn_r _ [24, 25, 26, 27, 28, 29, 30, 31, 32, 33, 34, 35, 36, 37, 38, 55, 56, 57, 58, 61] (by decide +kernel) (by decide +kernel)
set_option maxRecDepth 20000 in
theorem gX1_readInto_X0_addLeaf : GoodIn wsX1_readInto (wsV RX1 36 RX0 yX0_addLeaf wsX0_addLeaf) := goodIn_app (goodIn_of _ (by decide +kernel)) ggX1_readInto_X0_addLeaf
set_option maxRecDepth 20000 in
theorem ggX1_readInto_X1_readMark : GoodIn wsX1_readInto wsX1_readMark := goodIn_r _ [42, 16, 17, 18, 5, 19, 7, 8, 9, 10, 11, 1, 43, 44, 45, 23, 46, 28, 47, 48, 49, 50, 25, 29, 30, 31, 32, 33, 34, 35, 36, 37, 38, 51, 52, 53, 54, 59, 60, 55, 56, 57, 58, 61] (by decide +kernel) (by decide +kernel)
set_option maxRecDepth 20000 in
theorem gX1_readInto_X1_readMark : GoodIn wsX1_readInto (wsV RX1 40 RX1 yX1_readMark wsX1_readMark) := goodIn_app (goodIn_of _ (by decide +kernel)) ggX1_readInto_X1_readMark
theorem dX1_readInto_0 : decode cX1_readInto 0 = .ok (.aload_n 1, 1) := by decide +kernel
theorem dX1_readInto_1 : decode cX1_readInto 1 = .ok (.iconst 0, 1) := by decide +kernel
theorem dX1_readInto_2 : decode cX1_readInto 2 = .ok (.putfield 19, 3) := by decide +kernel
theorem dX1_readInto_5 : decode cX1_readInto 5 = .ok (.iconst 0, 1) := by decide +kernel
theorem dX1_readInto_6 : decode cX1_readInto 6 = .ok (.istore_n 2, 1) := by decide +kernel
theorem dX1_readInto_7 : decode cX1_readInto 7 = .ok (.iconst 0, 1) := by decide +kernel
theorem dX1_readInto_8 : decode cX1_readInto 8 = .ok (.istore_n 3, 1) := by decide +kernel
theorem dX1_readInto_9 : decode cX1_readInto 9 = .ok (.iload_n 3, 1) := by decide +kernel
theorem dX1_readInto_10 : decode cX1_readInto 10 = .ok (.bipush 30, 2) := by decide +kernel
theorem dX1_readInto_12 : decode cX1_readInto 12 = .ok (.if_icmp .ge 114, 3) := by decide +kernel
theorem dX1_readInto_15 : decode cX1_readInto 15 = .ok (.aload_n 0, 1) := by decide +kernel
theorem dX1_readInto_16 : decode cX1_readInto 16 = .ok (.iload_n 2, 1) := by decide +kernel
theorem dX1_readInto_17 : decode cX1_readInto 17 = .ok (.invokevirtual 24, 3) := by decide +kernel
theorem dX1_readInto_20 : decode cX1_readInto 20 = .ok (.ifCond .ne 5, 3) := by decide +kernel
theorem dX1_readInto_23 : decode cX1_readInto 23 = .ok (.iload_n 2, 1) := by decide +kernel
theorem dX1_readInto_24 : decode cX1_readInto 24 = .ok (.ireturn, 1) := by decide +kernel
theorem dX1_readInto_25 : decode cX1_readInto 25 = .ok (.aload_n 0, 1) := by decide +kernel
theorem dX1_readInto_26 : decode cX1_readInto 26 = .ok (.iload_n 2, 1) := by decide +kernel
theorem dX1_readInto_27 : decode cX1_readInto 27 = .ok (.invokevirtual 28, 3) := by decide +kernel
theorem dX1_readInto_30 : decode cX1_readInto 30 = .ok (.istore 4, 2) := by decide +kernel
theorem dX1_readInto_32 : decode cX1_readInto 32 = .ok (.iconst 0, 1) := by decide +kernel
theorem dX1_readInto_33 : decode cX1_readInto 33 = .ok (.istore 5, 2) := by decide +kernel
theorem dX1_readInto_35 : decode cX1_readInto 35 = .ok (.iinc 2 1, 3) := by decide +kernel
theorem dX1_readInto_38 : decode cX1_readInto 38 = .ok (.aload_n 0, 1) := by decide +kernel
theorem dX1_readInto_39 : decode cX1_readInto 39 = .ok (.iload_n 2, 1) := by decide +kernel
theorem dX1_readInto_40 : decode cX1_readInto 40 = .ok (.bipush 115, 2) := by decide +kernel
theorem dX1_readInto_42 : decode cX1_readInto 42 = .ok (.invokevirtual 32, 3) := by decide +kernel
theorem dX1_readInto_45 : decode cX1_readInto 45 = .ok (.ifCond .eq 26, 3) := by decide +kernel
theorem dX1_readInto_48 : decode cX1_readInto 48 = .ok (.iinc 2 1, 3) := by decide +kernel
theorem dX1_readInto_51 : decode cX1_readInto 51 = .ok (.aload_n 0, 1) := by decide +kernel
theorem dX1_readInto_52 : decode cX1_readInto 52 = .ok (.iload_n 2, 1) := by decide +kernel
theorem dX1_readInto_53 : decode cX1_readInto 53 = .ok (.invokevirtual 24, 3) := by decide +kernel
theorem dX1_readInto_56 : decode cX1_readInto 56 = .ok (.ifCond .ne 5, 3) := by decide +kernel
theorem dX1_readInto_59 : decode cX1_readInto 59 = .ok (.iload_n 2, 1) := by decide +kernel
theorem dX1_readInto_60 : decode cX1_readInto 60 = .ok (.ireturn, 1) := by decide +kernel
theorem dX1_readInto_61 : decode cX1_readInto 61 = .ok (.aload_n 0, 1) := by decide +kernel
theorem dX1_readInto_62 : decode cX1_readInto 62 = .ok (.iload_n 2, 1) := by decide +kernel
theorem dX1_readInto_63 : decode cX1_readInto 63 = .ok (.invokevirtual 28, 3) := by decide +kernel
theorem dX1_readInto_66 : decode cX1_readInto 66 = .ok (.istore 5, 2) := by decide +kernel
theorem dX1_readInto_68 : decode cX1_readInto 68 = .ok (.iinc 2 1, 3) := by decide +kernel
theorem dX1_readInto_71 : decode cX1_readInto 71 = .ok (.aload_n 1, 1) := by decide +kernel
theorem dX1_readInto_72 : decode cX1_readInto 72 = .ok (.iload 4, 2) := by decide +kernel
theorem dX1_readInto_74 : decode cX1_readInto 74 = .ok (.iload 5, 2) := by decide +kernel
theorem dX1_readInto_76 : decode cX1_readInto 76 = .ok (.invokevirtual 36, 3) := by decide +kernel
theorem dX1_readInto_79 : decode cX1_readInto 79 = .ok (.iload_n 2, 1) := by decide +kernel
theorem dX1_readInto_80 : decode cX1_readInto 80 = .ok (.aload_n 0, 1) := by decide +kernel
theorem dX1_readInto_81 : decode cX1_readInto 81 = .ok (.iload_n 2, 1) := by decide +kernel
theorem dX1_readInto_82 : decode cX1_readInto 82 = .ok (.aload_n 1, 1) := by decide +kernel
theorem dX1_readInto_83 : decode cX1_readInto 83 = .ok (.invokevirtual 40, 3) := by decide +kernel
theorem dX1_readInto_86 : decode cX1_readInto 86 = .ok (.iadd, 1) := by decide +kernel
theorem dX1_readInto_87 : decode cX1_readInto 87 = .ok (.istore_n 2, 1) := by decide +kernel
theorem dX1_readInto_88 : decode cX1_readInto 88 = .ok (.iload_n 2, 1) := by decide +kernel
theorem dX1_readInto_89 : decode cX1_readInto 89 = .ok (.aload_n 0, 1) := by decide +kernel
theorem dX1_readInto_90 : decode cX1_readInto 90 = .ok (.getfield 15, 3) := by decide +kernel
theorem dX1_readInto_93 : decode cX1_readInto 93 = .ok (.if_icmp .ne 6, 3) := by decide +kernel
theorem dX1_readInto_96 : decode cX1_readInto 96 = .ok (.bipush (-5), 2) := by decide +kernel
theorem dX1_readInto_98 : decode cX1_readInto 98 = .ok (.ireturn, 1) := by decide +kernel
theorem dX1_readInto_99 : decode cX1_readInto 99 = .ok (.aload_n 0, 1) := by decide +kernel
theorem dX1_readInto_100 : decode cX1_readInto 100 = .ok (.iload_n 2, 1) := by decide +kernel
theorem dX1_readInto_101 : decode cX1_readInto 101 = .ok (.bipush 44, 2) := by decide +kernel
theorem dX1_readInto_103 : decode cX1_readInto 103 = .ok (.invokevirtual 32, 3) := by decide +kernel
theorem dX1_readInto_106 : decode cX1_readInto 106 = .ok (.ifCond .eq 9, 3) := by decide +kernel
theorem dX1_readInto_109 : decode cX1_readInto 109 = .ok (.iload_n 3, 1) := by decide +kernel
theorem dX1_readInto_110 : decode cX1_readInto 110 = .ok (.bipush 29, 2) := by decide +kernel
theorem dX1_readInto_112 : decode cX1_readInto 112 = .ok (.if_icmp .ne 5, 3) := by decide +kernel
theorem dX1_readInto_115 : decode cX1_readInto 115 = .ok (.iload_n 2, 1) := by decide +kernel
theorem dX1_readInto_116 : decode cX1_readInto 116 = .ok (.ireturn, 1) := by decide +kernel
theorem dX1_readInto_117 : decode cX1_readInto 117 = .ok (.iinc 2 1, 3) := by decide +kernel
theorem dX1_readInto_120 : decode cX1_readInto 120 = .ok (.iinc 3 1, 3) := by decide +kernel
theorem dX1_readInto_123 : decode cX1_readInto 123 = .ok (.goto (-114), 3) := by decide +kernel
theorem dX1_readInto_126 : decode cX1_readInto 126 = .ok (.iload_n 2, 1) := by decide +kernel
theorem dX1_readInto_127 : decode cX1_readInto 127 = .ok (.ireturn, 1) := by decide +kernel
set_option maxRecDepth 20000 in
theorem ggX1_readMark_X1_is : GoodIn wsX1_readMark wsX1_is := goodIn_r _ [5, 6, 7, 8, 9, 4, 10, 11, 37, 38] (by decide +kernel) (by decide +kernel)
set_option maxRecDepth 20000 in
theorem gX1_readMark_X1_is : GoodIn wsX1_readMark (wsV RX1 32 RX1 yX1_is wsX1_is) := goodIn_app (goodIn_of _ (by decide +kernel)) ggX1_readMark_X1_is
set_option maxRecDepth 20000 in
theorem ggX1_readMark_X0_printNothingOnLast : GoodIn wsX1_readMark wsX0_printNothingOnLast := goodIn_r _ [16, 17, 18, 19, 20, 15, 21, 22, 23, 24, 25, 26, 27, 28, 29, 30, 31, 32, 39, 40, 41, 42, 43] (by decide +kernel) (by decide +kernel)
set_option maxRecDepth 20000 in
theorem gX1_readMark_X0_printNothingOnLast : GoodIn wsX1_readMark (wsV RX1 44 RX0 yX0_printNothingOnLast wsX0_printNothingOnLast) := goodIn_app (goodIn_of _ (by decide +kernel)) ggX1_readMark_X0_printNothingOnLast
set_option maxRecDepth 20000 in
theorem ggX1_readMark_X0_printTooMuchOnLast : GoodIn wsX1_readMark wsX0_printTooMuchOnLast := goodIn_r _ [36, 17, 18, 19, 20, 15, 21, 22, 23, 24, 25, 26, 27, 28, 29, 30, 31, 32, 39, 40, 41, 42, 43] (by decide +kernel) (by decide +kernel)
set_option maxRecDepth 20000 in
theorem gX1_readMark_X0_printTooMuchOnLast : GoodIn wsX1_readMark (wsV RX1 47 RX0 yX0_printTooMuchOnLast wsX0_printTooMuchOnLast) := goodIn_app (goodIn_of _ (by decide +kernel)) ggX1_readMark_X0_printTooMuchOnLast
theorem dX1_readMark_0 : decode cX1_readMark 0 = .ok (.aload_n 0, 1) := by decide +kernel
theorem dX1_readMark_1 : decode cX1_readMark 1 = .ok (.iload_n 1, 1) := by decide +kernel
theorem dX1_readMark_2 : decode cX1_readMark 2 = .ok (.bipush 42, 2) := by decide +kernel
theorem dX1_readMark_4 : decode cX1_readMark 4 = .ok (.invokevirtual 32, 3) := by decide +kernel
theorem dX1_readMark_7 : decode cX1_readMark 7 = .ok (.ifCond .eq 9, 3) := by decide +kernel
theorem dX1_readMark_10 : decode cX1_readMark 10 = .ok (.aload_n 2, 1) := by decide +kernel
theorem dX1_readMark_11 : decode cX1_readMark 11 = .ok (.invokevirtual 44, 3) := by decide +kernel
theorem dX1_readMark_14 : decode cX1_readMark 14 = .ok (.iconst 1, 1) := by decide +kernel
theorem dX1_readMark_15 : decode cX1_readMark 15 = .ok (.ireturn, 1) := by decide +kernel
theorem dX1_readMark_16 : decode cX1_readMark 16 = .ok (.aload_n 0, 1) := by decide +kernel
theorem dX1_readMark_17 : decode cX1_readMark 17 = .ok (.iload_n 1, 1) := by decide +kernel
theorem dX1_readMark_18 : decode cX1_readMark 18 = .ok (.bipush 33, 2) := by decide +kernel
theorem dX1_readMark_20 : decode cX1_readMark 20 = .ok (.invokevirtual 32, 3) := by decide +kernel
theorem dX1_readMark_23 : decode cX1_readMark 23 = .ok (.ifCond .eq 9, 3) := by decide +kernel
theorem dX1_readMark_26 : decode cX1_readMark 26 = .ok (.aload_n 2, 1) := by decide +kernel
theorem dX1_readMark_27 : decode cX1_readMark 27 = .ok (.invokevirtual 47, 3) := by decide +kernel
theorem dX1_readMark_30 : decode cX1_readMark 30 = .ok (.iconst 1, 1) := by decide +kernel
theorem dX1_readMark_31 : decode cX1_readMark 31 = .ok (.ireturn, 1) := by decide +kernel
theorem dX1_readMark_32 : decode cX1_readMark 32 = .ok (.iconst 0, 1) := by decide +kernel
theorem dX1_readMark_33 : decode cX1_readMark 33 = .ok (.ireturn, 1) := by decide +kernel
theorem dX1_has_0 : decode cX1_has 0 = .ok (.iload_n 1, 1) := by decide +kernel
theorem dX1_has_1 : decode cX1_has 1 = .ok (.ifCond .lt 24, 3) := by decide +kernel
theorem dX1_has_4 : decode cX1_has 4 = .ok (.iload_n 1, 1) := by decide +kernel
theorem dX1_has_5 : decode cX1_has 5 = .ok (.aload_n 0, 1) := by decide +kernel
theorem dX1_has_6 : decode cX1_has 6 = .ok (.getfield 15, 3) := by decide +kernel
theorem dX1_has_9 : decode cX1_has 9 = .ok (.if_icmp .ge 16, 3) := by decide +kernel
theorem dX1_has_12 : decode cX1_has 12 = .ok (.iload_n 1, 1) := by decide +kernel
theorem dX1_has_13 : decode cX1_has 13 = .ok (.aload_n 0, 1) := by decide +kernel
theorem dX1_has_14 : decode cX1_has 14 = .ok (.getfield 9, 3) := by decide +kernel
theorem dX1_has_17 : decode cX1_has 17 = .ok (.arraylength, 1) := by decide +kernel
theorem dX1_has_18 : decode cX1_has 18 = .ok (.if_icmp .ge 7, 3) := by decide +kernel
theorem dX1_has_21 : decode cX1_has 21 = .ok (.iconst 1, 1) := by decide +kernel
theorem dX1_has_22 : decode cX1_has 22 = .ok (.goto 4, 3) := by decide +kernel
theorem dX1_has_25 : decode cX1_has 25 = .ok (.iconst 0, 1) := by decide +kernel
theorem dX1_has_26 : decode cX1_has 26 = .ok (.ireturn, 1) := by decide +kernel
set_option maxRecDepth 20000 in
theorem ggX1_is_X1_has : GoodIn wsX1_is wsX1_has := goodIn_r _ [6, 7, 1, 8, 9] (by decide +kernel) (by decide +kernel)
set_option maxRecDepth 20000 in
theorem gX1_is_X1_has : GoodIn wsX1_is (wsV RX1 50 RX1 yX1_has wsX1_has) := goodIn_app (goodIn_of _ (by decide +kernel)) ggX1_is_X1_has
theorem dX1_is_0 : decode cX1_is 0 = .ok (.aload_n 0, 1) := by decide +kernel
theorem dX1_is_1 : decode cX1_is 1 = .ok (.iload_n 1, 1) := by decide +kernel
theorem dX1_is_2 : decode cX1_is 2 = .ok (.invokevirtual 50, 3) := by decide +kernel
theorem dX1_is_5 : decode cX1_is 5 = .ok (.ifCond .eq 17, 3) := by decide +kernel
theorem dX1_is_8 : decode cX1_is 8 = .ok (.aload_n 0, 1) := by decide +kernel
theorem dX1_is_9 : decode cX1_is 9 = .ok (.getfield 9, 3) := by decide +kernel
theorem dX1_is_12 : decode cX1_is 12 = .ok (.iload_n 1, 1) := by decide +kernel
theorem dX1_is_13 : decode cX1_is 13 = .ok (.caload, 1) := by decide +kernel
theorem dX1_is_14 : decode cX1_is 14 = .ok (.iload_n 2, 1) := by decide +kernel
theorem dX1_is_15 : decode cX1_is 15 = .ok (.if_icmp .ne 7, 3) := by decide +kernel
theorem dX1_is_18 : decode cX1_is 18 = .ok (.iconst 1, 1) := by decide +kernel
theorem dX1_is_19 : decode cX1_is 19 = .ok (.goto 4, 3) := by decide +kernel
theorem dX1_is_22 : decode cX1_is 22 = .ok (.iconst 0, 1) := by decide +kernel
theorem dX1_is_23 : decode cX1_is 23 = .ok (.ireturn, 1) := by decide +kernel
set_option maxRecDepth 20000 in
theorem ggX1_isDigit_X1_has : GoodIn wsX1_isDigit wsX1_has := goodIn_r _ [6, 7, 1, 8, 9] (by decide +kernel) (by decide +kernel)
set_option maxRecDepth 20000 in
theorem gX1_isDigit_X1_has : GoodIn wsX1_isDigit (wsV RX1 50 RX1 yX1_has wsX1_has) := goodIn_app (goodIn_of _ (by decide +kernel)) ggX1_isDigit_X1_has
theorem dX1_isDigit_0 : decode cX1_isDigit 0 = .ok (.aload_n 0, 1) := by decide +kernel
theorem dX1_isDigit_1 : decode cX1_isDigit 1 = .ok (.iload_n 1, 1) := by decide +kernel
theorem dX1_isDigit_2 : decode cX1_isDigit 2 = .ok (.invokevirtual 50, 3) := by decide +kernel
theorem dX1_isDigit_5 : decode cX1_isDigit 5 = .ok (.ifCond .eq 29, 3) := by decide +kernel
theorem dX1_isDigit_8 : decode cX1_isDigit 8 = .ok (.aload_n 0, 1) := by decide +kernel
theorem dX1_isDigit_9 : decode cX1_isDigit 9 = .ok (.getfield 9, 3) := by decide +kernel
theorem dX1_isDigit_12 : decode cX1_isDigit 12 = .ok (.iload_n 1, 1) := by decide +kernel
theorem dX1_isDigit_13 : decode cX1_isDigit 13 = .ok (.caload, 1) := by decide +kernel
theorem dX1_isDigit_14 : decode cX1_isDigit 14 = .ok (.bipush 49, 2) := by decide +kernel
theorem dX1_isDigit_16 : decode cX1_isDigit 16 = .ok (.if_icmp .lt 18, 3) := by decide +kernel
theorem dX1_isDigit_19 : decode cX1_isDigit 19 = .ok (.aload_n 0, 1) := by decide +kernel
theorem dX1_isDigit_20 : decode cX1_isDigit 20 = .ok (.getfield 9, 3) := by decide +kernel
theorem dX1_isDigit_23 : decode cX1_isDigit 23 = .ok (.iload_n 1, 1) := by decide +kernel
theorem dX1_isDigit_24 : decode cX1_isDigit 24 = .ok (.caload, 1) := by decide +kernel
theorem dX1_isDigit_25 : decode cX1_isDigit 25 = .ok (.bipush 57, 2) := by decide +kernel
theorem dX1_isDigit_27 : decode cX1_isDigit 27 = .ok (.if_icmp .gt 7, 3) := by decide +kernel
theorem dX1_isDigit_30 : decode cX1_isDigit 30 = .ok (.iconst 1, 1) := by decide +kernel
theorem dX1_isDigit_31 : decode cX1_isDigit 31 = .ok (.goto 4, 3) := by decide +kernel
theorem dX1_isDigit_34 : decode cX1_isDigit 34 = .ok (.iconst 0, 1) := by decide +kernel
theorem dX1_isDigit_35 : decode cX1_isDigit 35 = .ok (.ireturn, 1) := by decide +kernel
set_option maxRecDepth 20000 in
theorem ggX1_digit_X1_has : GoodIn wsX1_digit wsX1_has := goodIn_r _ [6, 7, 1, 8, 9] (by decide +kernel) (by decide +kernel)
set_option maxRecDepth 20000 in
theorem gX1_digit_X1_has : GoodIn wsX1_digit (wsV RX1 50 RX1 yX1_has wsX1_has) := goodIn_app (goodIn_of _ (by decide +kernel)) ggX1_digit_X1_has
theorem dX1_digit_0 : decode cX1_digit 0 = .ok (.aload_n 0, 1) := by decide +kernel
theorem dX1_digit_1 : decode cX1_digit 1 = .ok (.iload_n 1, 1) := by decide +kernel
theorem dX1_digit_2 : decode cX1_digit 2 = .ok (.invokevirtual 50, 3) := by decide +kernel
theorem dX1_digit_5 : decode cX1_digit 5 = .ok (.ifCond .eq 15, 3) := by decide +kernel
theorem dX1_digit_8 : decode cX1_digit 8 = .ok (.aload_n 0, 1) := by decide +kernel
theorem dX1_digit_9 : decode cX1_digit 9 = .ok (.getfield 9, 3) := by decide +kernel
theorem dX1_digit_12 : decode cX1_digit 12 = .ok (.iload_n 1, 1) := by decide +kernel
theorem dX1_digit_13 : decode cX1_digit 13 = .ok (.caload, 1) := by decide +kernel
theorem dX1_digit_14 : decode cX1_digit 14 = .ok (.bipush 48, 2) := by decide +kernel
theorem dX1_digit_16 : decode cX1_digit 16 = .ok (.isub, 1) := by decide +kernel
theorem dX1_digit_17 : decode cX1_digit 17 = .ok (.goto 4, 3) := by decide +kernel
theorem dX1_digit_20 : decode cX1_digit 20 = .ok (.iconst 0, 1) := by decide +kernel
theorem dX1_digit_21 : decode cX1_digit 21 = .ok (.ireturn, 1) := by decide +kernel
set_option maxRecDepth 20000 in
theorem ggX2_init_X6_init : GoodIn wsX2_init wsX6_init := goodIn_r _ [11, 12, 2, 3, 13, 14, 15, 16, 17, 18, 19, 20, 21, 22, 23, 24, 25, 26, 27, 28, 29, 30, 31, 32, 33, 34, 35, 36, 37, 38, 39, 40, 41, 42, 43, 44, 45, 46, 47, 48, 49, 50, 51, 52, 53, 54, 55, 56, 57, 58, 59, 60, 61, 62, 63, 64, 77, 78, 79, 80, 67, 68, 69, 70, 71, 72, 73, 74, 75, 76, 81, 82, 83, 84, 85, 86] (by decide +kernel) (by decide +kernel)
set_option maxRecDepth 20000 in
theorem gX2_init_X6_init : GoodIn wsX2_init (wsX6_init) := ggX2_init_X6_init
theorem dX2_init_0 : decode cX2_init 0 = .ok (.aload_n 0, 1) := by decide +kernel
theorem dX2_init_1 : decode cX2_init 1 = .ok (.invokespecial 3, 3) := by decide +kernel
theorem dX2_init_4 : decode cX2_init 4 = .ok (.aload_n 0, 1) := by decide +kernel
theorem dX2_init_5 : decode cX2_init 5 = .ok (.iconst 4, 1) := by decide +kernel
theorem dX2_init_6 : decode cX2_init 6 = .ok (.anewarray 9, 3) := by decide +kernel
theorem dX2_init_9 : decode cX2_init 9 = .ok (.putfield 11, 3) := by decide +kernel
theorem dX2_init_12 : decode cX2_init 12 = .ok (.iconst 0, 1) := by decide +kernel
theorem dX2_init_13 : decode cX2_init 13 = .ok (.istore_n 1, 1) := by decide +kernel
theorem dX2_init_14 : decode cX2_init 14 = .ok (.iload_n 1, 1) := by decide +kernel
theorem dX2_init_15 : decode cX2_init 15 = .ok (.aload_n 0, 1) := by decide +kernel
theorem dX2_init_16 : decode cX2_init 16 = .ok (.getfield 11, 3) := by decide +kernel
theorem dX2_init_19 : decode cX2_init 19 = .ok (.arraylength, 1) := by decide +kernel
theorem dX2_init_20 : decode cX2_init 20 = .ok (.if_icmp .ge 22, 3) := by decide +kernel
theorem dX2_init_23 : decode cX2_init 23 = .ok (.aload_n 0, 1) := by decide +kernel
theorem dX2_init_24 : decode cX2_init 24 = .ok (.getfield 11, 3) := by decide +kernel
theorem dX2_init_27 : decode cX2_init 27 = .ok (.iload_n 1, 1) := by decide +kernel
theorem dX2_init_28 : decode cX2_init 28 = .ok (.new 9, 3) := by decide +kernel
theorem dX2_init_31 : decode cX2_init 31 = .ok (.dup, 1) := by decide +kernel
theorem dX2_init_32 : decode cX2_init 32 = .ok (.invokespecial 17, 3) := by decide +kernel
theorem dX2_init_35 : decode cX2_init 35 = .ok (.aastore, 1) := by decide +kernel
theorem dX2_init_36 : decode cX2_init 36 = .ok (.iinc 1 1, 3) := by decide +kernel
theorem dX2_init_39 : decode cX2_init 39 = .ok (.goto (-25), 3) := by decide +kernel
theorem dX2_init_42 : decode cX2_init 42 = .ok (.aload_n 0, 1) := by decide +kernel
theorem dX2_init_43 : decode cX2_init 43 = .ok (.iconst 0, 1) := by decide +kernel
theorem dX2_init_44 : decode cX2_init 44 = .ok (.putfield 18, 3) := by decide +kernel
theorem dX2_init_47 : decode cX2_init 47 = .ok (.return_, 1) := by decide +kernel
set_option maxRecDepth 20000 in
theorem ggX2_record_X2_dropOldest : GoodIn wsX2_record wsX2_dropOldest := goodIn_r _ [7, 2, 1, 58, 59] (by decide +kernel) (by decide +kernel)
set_option maxRecDepth 20000 in
theorem gX2_record_X2_dropOldest : GoodIn wsX2_record (wsV RX2 22 RX2 yX2_dropOldest wsX2_dropOldest) := goodIn_app (goodIn_of _ (by decide +kernel)) ggX2_record_X2_dropOldest
set_option maxRecDepth 20000 in
theorem ggX2_record_X6_copyFrom : GoodIn wsX2_record wsX6_copyFrom := goodIn_r _ [12, 13, 14, 15, 16, 17, 18, 19, 20, 21, 22, 23, 24, 25, 26, 27, 28, 29, 30, 31, 32, 33, 34, 35, 36, 37, 38, 39, 40, 41, 42, 43, 44, 45, 46, 47, 48, 49, 50, 51, 52, 53, 54, 55, 56, 57, 60, 61, 62, 63, 64, 65, 66, 67, 68, 69, 70, 71, 72, 73, 74, 75, 76, 77, 78, 79] (by decide +kernel) (by decide +kernel)
set_option maxRecDepth 20000 in
theorem gX2_record_X6_copyFrom : GoodIn wsX2_record (wsV RX2 25 RX6 yX6_copyFrom wsX6_copyFrom) := goodIn_app (goodIn_of _ (by decide +kernel)) ggX2_record_X6_copyFrom
theorem dX2_record_0 : decode cX2_record 0 = .ok (.aload_n 0, 1) := by decide +kernel
theorem dX2_record_1 : decode cX2_record 1 = .ok (.getfield 18, 3) := by decide +kernel
theorem dX2_record_4 : decode cX2_record 4 = .ok (.aload_n 0, 1) := by decide +kernel
theorem dX2_record_5 : decode cX2_record 5 = .ok (.getfield 11, 3) := by decide +kernel
theorem dX2_record_8 : decode cX2_record 8 = .ok (.arraylength, 1) := by decide +kernel
theorem dX2_record_9 : decode cX2_record 9 = .ok (.if_icmp .lt 7, 3) := by decide +kernel
theorem dX2_record_12 : decode cX2_record 12 = .ok (.aload_n 0, 1) := by decide +kernel
theorem dX2_record_13 : decode cX2_record 13 = .ok (.invokevirtual 22, 3) := by decide +kernel
theorem dX2_record_16 : decode cX2_record 16 = .ok (.aload_n 0, 1) := by decide +kernel
theorem dX2_record_17 : decode cX2_record 17 = .ok (.getfield 18, 3) := by decide +kernel
theorem dX2_record_20 : decode cX2_record 20 = .ok (.ifCond .lt 27, 3) := by decide +kernel
theorem dX2_record_23 : decode cX2_record 23 = .ok (.aload_n 0, 1) := by decide +kernel
theorem dX2_record_24 : decode cX2_record 24 = .ok (.getfield 18, 3) := by decide +kernel
theorem dX2_record_27 : decode cX2_record 27 = .ok (.aload_n 0, 1) := by decide +kernel
theorem dX2_record_28 : decode cX2_record 28 = .ok (.getfield 11, 3) := by decide +kernel
theorem dX2_record_31 : decode cX2_record 31 = .ok (.arraylength, 1) := by decide +kernel
theorem dX2_record_32 : decode cX2_record 32 = .ok (.if_icmp .ge 15, 3) := by decide +kernel
theorem dX2_record_35 : decode cX2_record 35 = .ok (.aload_n 0, 1) := by decide +kernel
theorem dX2_record_36 : decode cX2_record 36 = .ok (.getfield 11, 3) := by decide +kernel
theorem dX2_record_39 : decode cX2_record 39 = .ok (.aload_n 0, 1) := by decide +kernel
theorem dX2_record_40 : decode cX2_record 40 = .ok (.getfield 18, 3) := by decide +kernel
theorem dX2_record_43 : decode cX2_record 43 = .ok (.aaload, 1) := by decide +kernel
theorem dX2_record_44 : decode cX2_record 44 = .ok (.ifnonnull 4, 3) := by decide +kernel
theorem dX2_record_47 : decode cX2_record 47 = .ok (.return_, 1) := by decide +kernel
theorem dX2_record_48 : decode cX2_record 48 = .ok (.aload_n 0, 1) := by decide +kernel
theorem dX2_record_49 : decode cX2_record 49 = .ok (.getfield 11, 3) := by decide +kernel
theorem dX2_record_52 : decode cX2_record 52 = .ok (.aload_n 0, 1) := by decide +kernel
theorem dX2_record_53 : decode cX2_record 53 = .ok (.getfield 18, 3) := by decide +kernel
theorem dX2_record_56 : decode cX2_record 56 = .ok (.aaload, 1) := by decide +kernel
theorem dX2_record_57 : decode cX2_record 57 = .ok (.aload_n 1, 1) := by decide +kernel
theorem dX2_record_58 : decode cX2_record 58 = .ok (.invokevirtual 25, 3) := by decide +kernel
theorem dX2_record_61 : decode cX2_record 61 = .ok (.aload_n 0, 1) := by decide +kernel
theorem dX2_record_62 : decode cX2_record 62 = .ok (.dup, 1) := by decide +kernel
theorem dX2_record_63 : decode cX2_record 63 = .ok (.getfield 18, 3) := by decide +kernel
theorem dX2_record_66 : decode cX2_record 66 = .ok (.iconst 1, 1) := by decide +kernel
theorem dX2_record_67 : decode cX2_record 67 = .ok (.iadd, 1) := by decide +kernel
theorem dX2_record_68 : decode cX2_record 68 = .ok (.putfield 18, 3) := by decide +kernel
theorem dX2_record_71 : decode cX2_record 71 = .ok (.return_, 1) := by decide +kernel
set_option maxRecDepth 20000 in
theorem ggX2_takeLatestInto_X6_copyFrom : GoodIn wsX2_takeLatestInto wsX6_copyFrom := goodIn_r _ [7, 8, 9, 10, 11, 12, 13, 14, 15, 16, 17, 18, 19, 20, 21, 22, 23, 24, 25, 26, 27, 28, 29, 30, 31, 32, 33, 34, 35, 36, 37, 38, 39, 40, 41, 42, 43, 44, 45, 46, 47, 48, 49, 50, 51, 52, 55, 56, 57, 58, 59, 60, 61, 62, 63, 64, 65, 66, 67, 68, 69, 70, 71, 72, 73, 74] (by decide +kernel) (by decide +kernel)
set_option maxRecDepth 20000 in
theorem gX2_takeLatestInto_X6_copyFrom : GoodIn wsX2_takeLatestInto (wsV RX2 25 RX6 yX6_copyFrom wsX6_copyFrom) := goodIn_app (goodIn_of _ (by decide +kernel)) ggX2_takeLatestInto_X6_copyFrom
theorem dX2_takeLatestInto_0 : decode cX2_takeLatestInto 0 = .ok (.aload_n 0, 1) := by decide +kernel
theorem dX2_takeLatestInto_1 : decode cX2_takeLatestInto 1 = .ok (.getfield 18, 3) := by decide +kernel
theorem dX2_takeLatestInto_4 : decode cX2_takeLatestInto 4 = .ok (.iconst 1, 1) := by decide +kernel
theorem dX2_takeLatestInto_5 : decode cX2_takeLatestInto 5 = .ok (.isub, 1) := by decide +kernel
theorem dX2_takeLatestInto_6 : decode cX2_takeLatestInto 6 = .ok (.istore_n 2, 1) := by decide +kernel
theorem dX2_takeLatestInto_7 : decode cX2_takeLatestInto 7 = .ok (.iload_n 2, 1) := by decide +kernel
theorem dX2_takeLatestInto_8 : decode cX2_takeLatestInto 8 = .ok (.ifCond .lt 21, 3) := by decide +kernel
theorem dX2_takeLatestInto_11 : decode cX2_takeLatestInto 11 = .ok (.iload_n 2, 1) := by decide +kernel
theorem dX2_takeLatestInto_12 : decode cX2_takeLatestInto 12 = .ok (.aload_n 0, 1) := by decide +kernel
theorem dX2_takeLatestInto_13 : decode cX2_takeLatestInto 13 = .ok (.getfield 11, 3) := by decide +kernel
theorem dX2_takeLatestInto_16 : decode cX2_takeLatestInto 16 = .ok (.arraylength, 1) := by decide +kernel
theorem dX2_takeLatestInto_17 : decode cX2_takeLatestInto 17 = .ok (.if_icmp .ge 12, 3) := by decide +kernel
theorem dX2_takeLatestInto_20 : decode cX2_takeLatestInto 20 = .ok (.aload_n 0, 1) := by decide +kernel
theorem dX2_takeLatestInto_21 : decode cX2_takeLatestInto 21 = .ok (.getfield 11, 3) := by decide +kernel
theorem dX2_takeLatestInto_24 : decode cX2_takeLatestInto 24 = .ok (.iload_n 2, 1) := by decide +kernel
theorem dX2_takeLatestInto_25 : decode cX2_takeLatestInto 25 = .ok (.aaload, 1) := by decide +kernel
theorem dX2_takeLatestInto_26 : decode cX2_takeLatestInto 26 = .ok (.ifnonnull 4, 3) := by decide +kernel
theorem dX2_takeLatestInto_29 : decode cX2_takeLatestInto 29 = .ok (.return_, 1) := by decide +kernel
theorem dX2_takeLatestInto_30 : decode cX2_takeLatestInto 30 = .ok (.aload_n 1, 1) := by decide +kernel
theorem dX2_takeLatestInto_31 : decode cX2_takeLatestInto 31 = .ok (.aload_n 0, 1) := by decide +kernel
theorem dX2_takeLatestInto_32 : decode cX2_takeLatestInto 32 = .ok (.getfield 11, 3) := by decide +kernel
theorem dX2_takeLatestInto_35 : decode cX2_takeLatestInto 35 = .ok (.iload_n 2, 1) := by decide +kernel
theorem dX2_takeLatestInto_36 : decode cX2_takeLatestInto 36 = .ok (.aaload, 1) := by decide +kernel
theorem dX2_takeLatestInto_37 : decode cX2_takeLatestInto 37 = .ok (.invokevirtual 25, 3) := by decide +kernel
theorem dX2_takeLatestInto_40 : decode cX2_takeLatestInto 40 = .ok (.aload_n 0, 1) := by decide +kernel
theorem dX2_takeLatestInto_41 : decode cX2_takeLatestInto 41 = .ok (.iload_n 2, 1) := by decide +kernel
theorem dX2_takeLatestInto_42 : decode cX2_takeLatestInto 42 = .ok (.putfield 18, 3) := by decide +kernel
theorem dX2_takeLatestInto_45 : decode cX2_takeLatestInto 45 = .ok (.return_, 1) := by decide +kernel
theorem dX2_dropOldest_0 : decode cX2_dropOldest 0 = .ok (.aload_n 0, 1) := by decide +kernel
theorem dX2_dropOldest_1 : decode cX2_dropOldest 1 = .ok (.getfield 11, 3) := by decide +kernel
theorem dX2_dropOldest_4 : decode cX2_dropOldest 4 = .ok (.arraylength, 1) := by decide +kernel
theorem dX2_dropOldest_5 : decode cX2_dropOldest 5 = .ok (.ifCond .ne 4, 3) := by decide +kernel
theorem dX2_dropOldest_8 : decode cX2_dropOldest 8 = .ok (.return_, 1) := by decide +kernel
theorem dX2_dropOldest_9 : decode cX2_dropOldest 9 = .ok (.aload_n 0, 1) := by decide +kernel
theorem dX2_dropOldest_10 : decode cX2_dropOldest 10 = .ok (.getfield 11, 3) := by decide +kernel
theorem dX2_dropOldest_13 : decode cX2_dropOldest 13 = .ok (.iconst 0, 1) := by decide +kernel
theorem dX2_dropOldest_14 : decode cX2_dropOldest 14 = .ok (.aaload, 1) := by decide +kernel
theorem dX2_dropOldest_15 : decode cX2_dropOldest 15 = .ok (.astore_n 1, 1) := by decide +kernel
theorem dX2_dropOldest_16 : decode cX2_dropOldest 16 = .ok (.iconst 1, 1) := by decide +kernel
theorem dX2_dropOldest_17 : decode cX2_dropOldest 17 = .ok (.istore_n 2, 1) := by decide +kernel
theorem dX2_dropOldest_18 : decode cX2_dropOldest 18 = .ok (.iload_n 2, 1) := by decide +kernel
theorem dX2_dropOldest_19 : decode cX2_dropOldest 19 = .ok (.aload_n 0, 1) := by decide +kernel
theorem dX2_dropOldest_20 : decode cX2_dropOldest 20 = .ok (.getfield 11, 3) := by decide +kernel
theorem dX2_dropOldest_23 : decode cX2_dropOldest 23 = .ok (.arraylength, 1) := by decide +kernel
theorem dX2_dropOldest_24 : decode cX2_dropOldest 24 = .ok (.if_icmp .ge 23, 3) := by decide +kernel
theorem dX2_dropOldest_27 : decode cX2_dropOldest 27 = .ok (.aload_n 0, 1) := by decide +kernel
theorem dX2_dropOldest_28 : decode cX2_dropOldest 28 = .ok (.getfield 11, 3) := by decide +kernel
theorem dX2_dropOldest_31 : decode cX2_dropOldest 31 = .ok (.iload_n 2, 1) := by decide +kernel
theorem dX2_dropOldest_32 : decode cX2_dropOldest 32 = .ok (.iconst 1, 1) := by decide +kernel
theorem dX2_dropOldest_33 : decode cX2_dropOldest 33 = .ok (.isub, 1) := by decide +kernel
theorem dX2_dropOldest_34 : decode cX2_dropOldest 34 = .ok (.aload_n 0, 1) := by decide +kernel
theorem dX2_dropOldest_35 : decode cX2_dropOldest 35 = .ok (.getfield 11, 3) := by decide +kernel
theorem dX2_dropOldest_38 : decode cX2_dropOldest 38 = .ok (.iload_n 2, 1) := by decide +kernel
theorem dX2_dropOldest_39 : decode cX2_dropOldest 39 = .ok (.aaload, 1) := by decide +kernel
theorem dX2_dropOldest_40 : decode cX2_dropOldest 40 = .ok (.aastore, 1) := by decide +kernel
theorem dX2_dropOldest_41 : decode cX2_dropOldest 41 = .ok (.iinc 2 1, 3) := by decide +kernel
theorem dX2_dropOldest_44 : decode cX2_dropOldest 44 = .ok (.goto (-26), 3) := by decide +kernel
theorem dX2_dropOldest_47 : decode cX2_dropOldest 47 = .ok (.aload_n 0, 1) := by decide +kernel
theorem dX2_dropOldest_48 : decode cX2_dropOldest 48 = .ok (.getfield 11, 3) := by decide +kernel
theorem dX2_dropOldest_51 : decode cX2_dropOldest 51 = .ok (.aload_n 0, 1) := by decide +kernel
theorem dX2_dropOldest_52 : decode cX2_dropOldest 52 = .ok (.getfield 11, 3) := by decide +kernel
theorem dX2_dropOldest_55 : decode cX2_dropOldest 55 = .ok (.arraylength, 1) := by decide +kernel
theorem dX2_dropOldest_56 : decode cX2_dropOldest 56 = .ok (.iconst 1, 1) := by decide +kernel
theorem dX2_dropOldest_57 : decode cX2_dropOldest 57 = .ok (.isub, 1) := by decide +kernel
theorem dX2_dropOldest_58 : decode cX2_dropOldest 58 = .ok (.aload_n 1, 1) := by decide +kernel
theorem dX2_dropOldest_59 : decode cX2_dropOldest 59 = .ok (.aastore, 1) := by decide +kernel
theorem dX2_dropOldest_60 : decode cX2_dropOldest 60 = .ok (.aload_n 0, 1) := by decide +kernel
theorem dX2_dropOldest_61 : decode cX2_dropOldest 61 = .ok (.aload_n 0, 1) := by decide +kernel
theorem dX2_dropOldest_62 : decode cX2_dropOldest 62 = .ok (.getfield 11, 3) := by decide +kernel
theorem dX2_dropOldest_65 : decode cX2_dropOldest 65 = .ok (.arraylength, 1) := by decide +kernel
theorem dX2_dropOldest_66 : decode cX2_dropOldest 66 = .ok (.iconst 1, 1) := by decide +kernel
theorem dX2_dropOldest_67 : decode cX2_dropOldest 67 = .ok (.isub, 1) := by decide +kernel
theorem dX2_dropOldest_68 : decode cX2_dropOldest 68 = .ok (.putfield 18, 3) := by decide +kernel
theorem dX2_dropOldest_71 : decode cX2_dropOldest 71 = .ok (.return_, 1) := by decide +kernel
theorem dX3_init_0 : decode cX3_init 0 = .ok (.aload_n 0, 1) := by decide +kernel
theorem dX3_init_1 : decode cX3_init 1 = .ok (.invokespecial 3, 3) := by decide +kernel
theorem dX3_init_4 : decode cX3_init 4 = .ok (.aload_n 0, 1) := by decide +kernel
theorem dX3_init_5 : decode cX3_init 5 = .ok (.iload_n 1, 1) := by decide +kernel
theorem dX3_init_6 : decode cX3_init 6 = .ok (.iconst 0, 1) := by decide +kernel
theorem dX3_init_7 : decode cX3_init 7 = .ok (.invokestatic 9, 3) := by decide +kernel
theorem dX3_init_10 : decode cX3_init 10 = .ok (.newarray .int, 2) := by decide +kernel
theorem dX3_init_12 : decode cX3_init 12 = .ok (.putfield 15, 3) := by decide +kernel
theorem dX3_init_15 : decode cX3_init 15 = .ok (.return_, 1) := by decide +kernel
theorem dX3_has_0 : decode cX3_has 0 = .ok (.iload_n 1, 1) := by decide +kernel
theorem dX3_has_1 : decode cX3_has 1 = .ok (.ifCond .lt 16, 3) := by decide +kernel
theorem dX3_has_4 : decode cX3_has 4 = .ok (.iload_n 1, 1) := by decide +kernel
theorem dX3_has_5 : decode cX3_has 5 = .ok (.aload_n 0, 1) := by decide +kernel
theorem dX3_has_6 : decode cX3_has 6 = .ok (.getfield 15, 3) := by decide +kernel
theorem dX3_has_9 : decode cX3_has 9 = .ok (.arraylength, 1) := by decide +kernel
theorem dX3_has_10 : decode cX3_has 10 = .ok (.if_icmp .ge 7, 3) := by decide +kernel
theorem dX3_has_13 : decode cX3_has 13 = .ok (.iconst 1, 1) := by decide +kernel
theorem dX3_has_14 : decode cX3_has 14 = .ok (.goto 4, 3) := by decide +kernel
theorem dX3_has_17 : decode cX3_has 17 = .ok (.iconst 0, 1) := by decide +kernel
theorem dX3_has_18 : decode cX3_has 18 = .ok (.ireturn, 1) := by decide +kernel
set_option maxRecDepth 20000 in
theorem ggX3_at_X3_has : GoodIn wsX3_at wsX3_has := goodIn_r _ [6, 1, 7] (by decide +kernel) (by decide +kernel)
set_option maxRecDepth 20000 in
theorem gX3_at_X3_has : GoodIn wsX3_at (wsV RX3 21 RX3 yX3_has wsX3_has) := goodIn_app (goodIn_of _ (by decide +kernel)) ggX3_at_X3_has
theorem dX3_at_0 : decode cX3_at 0 = .ok (.aload_n 0, 1) := by decide +kernel
theorem dX3_at_1 : decode cX3_at 1 = .ok (.iload_n 1, 1) := by decide +kernel
theorem dX3_at_2 : decode cX3_at 2 = .ok (.invokevirtual 21, 3) := by decide +kernel
theorem dX3_at_5 : decode cX3_at 5 = .ok (.ifCond .eq 12, 3) := by decide +kernel
theorem dX3_at_8 : decode cX3_at 8 = .ok (.aload_n 0, 1) := by decide +kernel
theorem dX3_at_9 : decode cX3_at 9 = .ok (.getfield 15, 3) := by decide +kernel
theorem dX3_at_12 : decode cX3_at 12 = .ok (.iload_n 1, 1) := by decide +kernel
theorem dX3_at_13 : decode cX3_at 13 = .ok (.iaload, 1) := by decide +kernel
theorem dX3_at_14 : decode cX3_at 14 = .ok (.goto 5, 3) := by decide +kernel
theorem dX3_at_17 : decode cX3_at 17 = .ok (.bipush (-5), 2) := by decide +kernel
theorem dX3_at_19 : decode cX3_at 19 = .ok (.ireturn, 1) := by decide +kernel
set_option maxRecDepth 20000 in
theorem ggX3_put_X3_has : GoodIn wsX3_put wsX3_has := goodIn_r _ [6, 1, 7] (by decide +kernel) (by decide +kernel)
set_option maxRecDepth 20000 in
theorem gX3_put_X3_has : GoodIn wsX3_put (wsV RX3 21 RX3 yX3_has wsX3_has) := goodIn_app (goodIn_of _ (by decide +kernel)) ggX3_put_X3_has
theorem dX3_put_0 : decode cX3_put 0 = .ok (.aload_n 0, 1) := by decide +kernel
theorem dX3_put_1 : decode cX3_put 1 = .ok (.iload_n 1, 1) := by decide +kernel
theorem dX3_put_2 : decode cX3_put 2 = .ok (.invokevirtual 21, 3) := by decide +kernel
theorem dX3_put_5 : decode cX3_put 5 = .ok (.ifCond .eq 10, 3) := by decide +kernel
theorem dX3_put_8 : decode cX3_put 8 = .ok (.aload_n 0, 1) := by decide +kernel
theorem dX3_put_9 : decode cX3_put 9 = .ok (.getfield 15, 3) := by decide +kernel
theorem dX3_put_12 : decode cX3_put 12 = .ok (.iload_n 1, 1) := by decide +kernel
theorem dX3_put_13 : decode cX3_put 13 = .ok (.iload_n 2, 1) := by decide +kernel
theorem dX3_put_14 : decode cX3_put 14 = .ok (.iastore, 1) := by decide +kernel
theorem dX3_put_15 : decode cX3_put 15 = .ok (.return_, 1) := by decide +kernel
set_option maxRecDepth 20000 in
theorem ggX3_putAll_J7_fill_53178 : GoodIn wsX3_putAll wsJ7_fill_53178 := goodIn_r _ [5] (by decide +kernel) (by decide +kernel)
set_option maxRecDepth 20000 in
theorem gX3_putAll_J7_fill_53178 : GoodIn wsX3_putAll (va_wsS RX3 25 yJ7_fill_53178 wsJ7_fill_53178) := goodIn_app (goodIn_of _ (by decide +kernel)) ggX3_putAll_J7_fill_53178
theorem dX3_putAll_0 : decode cX3_putAll 0 = .ok (.aload_n 0, 1) := by decide +kernel
theorem dX3_putAll_1 : decode cX3_putAll 1 = .ok (.getfield 15, 3) := by decide +kernel
theorem dX3_putAll_4 : decode cX3_putAll 4 = .ok (.iload_n 1, 1) := by decide +kernel
theorem dX3_putAll_5 : decode cX3_putAll 5 = .ok (.invokestatic 25, 3) := by decide +kernel
theorem dX3_putAll_8 : decode cX3_putAll 8 = .ok (.return_, 1) := by decide +kernel
set_option maxRecDepth 20000 in
theorem ggX3_removeAt_X3_has : GoodIn wsX3_removeAt wsX3_has := goodIn_r _ [10, 1, 11] (by decide +kernel) (by decide +kernel)
set_option maxRecDepth 20000 in
theorem gX3_removeAt_X3_has : GoodIn wsX3_removeAt (wsV RX3 21 RX3 yX3_has wsX3_has) := goodIn_app (goodIn_of _ (by decide +kernel)) ggX3_removeAt_X3_has
theorem dX3_removeAt_0 : decode cX3_removeAt 0 = .ok (.aload_n 0, 1) := by decide +kernel
theorem dX3_removeAt_1 : decode cX3_removeAt 1 = .ok (.iload_n 1, 1) := by decide +kernel
theorem dX3_removeAt_2 : decode cX3_removeAt 2 = .ok (.invokevirtual 21, 3) := by decide +kernel
theorem dX3_removeAt_5 : decode cX3_removeAt 5 = .ok (.ifCond .eq 27, 3) := by decide +kernel
theorem dX3_removeAt_8 : decode cX3_removeAt 8 = .ok (.aload_n 0, 1) := by decide +kernel
theorem dX3_removeAt_9 : decode cX3_removeAt 9 = .ok (.getfield 15, 3) := by decide +kernel
theorem dX3_removeAt_12 : decode cX3_removeAt 12 = .ok (.iload_n 1, 1) := by decide +kernel
theorem dX3_removeAt_13 : decode cX3_removeAt 13 = .ok (.iconst 1, 1) := by decide +kernel
theorem dX3_removeAt_14 : decode cX3_removeAt 14 = .ok (.iadd, 1) := by decide +kernel
theorem dX3_removeAt_15 : decode cX3_removeAt 15 = .ok (.aload_n 0, 1) := by decide +kernel
theorem dX3_removeAt_16 : decode cX3_removeAt 16 = .ok (.getfield 15, 3) := by decide +kernel
theorem dX3_removeAt_19 : decode cX3_removeAt 19 = .ok (.iload_n 1, 1) := by decide +kernel
theorem dX3_removeAt_20 : decode cX3_removeAt 20 = .ok (.aload_n 0, 1) := by decide +kernel
theorem dX3_removeAt_21 : decode cX3_removeAt 21 = .ok (.getfield 15, 3) := by decide +kernel
theorem dX3_removeAt_24 : decode cX3_removeAt 24 = .ok (.arraylength, 1) := by decide +kernel
theorem dX3_removeAt_25 : decode cX3_removeAt 25 = .ok (.iconst 1, 1) := by decide +kernel
theorem dX3_removeAt_26 : decode cX3_removeAt 26 = .ok (.isub, 1) := by decide +kernel
theorem dX3_removeAt_27 : decode cX3_removeAt 27 = .ok (.iload_n 1, 1) := by decide +kernel
theorem dX3_removeAt_28 : decode cX3_removeAt 28 = .ok (.isub, 1) := by decide +kernel
theorem dX3_removeAt_29 : decode cX3_removeAt 29 = .ok (.invokestatic 31, 3) := by decide +kernel
theorem dX3_removeAt_32 : decode cX3_removeAt 32 = .ok (.return_, 1) := by decide +kernel
theorem dX3_copyFrom_0 : decode cX3_copyFrom 0 = .ok (.aload_n 1, 1) := by decide +kernel
theorem dX3_copyFrom_1 : decode cX3_copyFrom 1 = .ok (.getfield 15, 3) := by decide +kernel
theorem dX3_copyFrom_4 : decode cX3_copyFrom 4 = .ok (.iconst 0, 1) := by decide +kernel
theorem dX3_copyFrom_5 : decode cX3_copyFrom 5 = .ok (.aload_n 0, 1) := by decide +kernel
theorem dX3_copyFrom_6 : decode cX3_copyFrom 6 = .ok (.getfield 15, 3) := by decide +kernel
theorem dX3_copyFrom_9 : decode cX3_copyFrom 9 = .ok (.iconst 0, 1) := by decide +kernel
theorem dX3_copyFrom_10 : decode cX3_copyFrom 10 = .ok (.aload_n 1, 1) := by decide +kernel
theorem dX3_copyFrom_11 : decode cX3_copyFrom 11 = .ok (.getfield 15, 3) := by decide +kernel
theorem dX3_copyFrom_14 : decode cX3_copyFrom 14 = .ok (.arraylength, 1) := by decide +kernel
theorem dX3_copyFrom_15 : decode cX3_copyFrom 15 = .ok (.aload_n 0, 1) := by decide +kernel
theorem dX3_copyFrom_16 : decode cX3_copyFrom 16 = .ok (.getfield 15, 3) := by decide +kernel
theorem dX3_copyFrom_19 : decode cX3_copyFrom 19 = .ok (.arraylength, 1) := by decide +kernel
theorem dX3_copyFrom_20 : decode cX3_copyFrom 20 = .ok (.invokestatic 37, 3) := by decide +kernel
theorem dX3_copyFrom_23 : decode cX3_copyFrom 23 = .ok (.invokestatic 31, 3) := by decide +kernel
theorem dX3_copyFrom_26 : decode cX3_copyFrom 26 = .ok (.return_, 1) := by decide +kernel
set_option maxRecDepth 20000 in
theorem ggX4_init_X3_init : GoodIn wsX4_init wsX3_init := goodIn_r _ [11, 12, 2, 3, 13, 14, 15, 16, 17, 18, 19] (by decide +kernel) (by decide +kernel)
set_option maxRecDepth 20000 in
theorem gX4_init_X3_init : GoodIn wsX4_init (wsX3_init) := ggX4_init_X3_init
theorem dX4_init_0 : decode cX4_init 0 = .ok (.aload_n 0, 1) := by decide +kernel
theorem dX4_init_1 : decode cX4_init 1 = .ok (.invokespecial 3, 3) := by decide +kernel
theorem dX4_init_4 : decode cX4_init 4 = .ok (.aload_n 0, 1) := by decide +kernel
theorem dX4_init_5 : decode cX4_init 5 = .ok (.new 9, 3) := by decide +kernel
theorem dX4_init_8 : decode cX4_init 8 = .ok (.dup, 1) := by decide +kernel
theorem dX4_init_9 : decode cX4_init 9 = .ok (.bipush 80, 2) := by decide +kernel
theorem dX4_init_11 : decode cX4_init 11 = .ok (.invokespecial 11, 3) := by decide +kernel
theorem dX4_init_14 : decode cX4_init 14 = .ok (.putfield 14, 3) := by decide +kernel
theorem dX4_init_17 : decode cX4_init 17 = .ok (.aload_n 0, 1) := by decide +kernel
theorem dX4_init_18 : decode cX4_init 18 = .ok (.new 9, 3) := by decide +kernel
theorem dX4_init_21 : decode cX4_init 21 = .ok (.dup, 1) := by decide +kernel
theorem dX4_init_22 : decode cX4_init 22 = .ok (.bipush 60, 2) := by decide +kernel
theorem dX4_init_24 : decode cX4_init 24 = .ok (.invokespecial 11, 3) := by decide +kernel
theorem dX4_init_27 : decode cX4_init 27 = .ok (.putfield 20, 3) := by decide +kernel
theorem dX4_init_30 : decode cX4_init 30 = .ok (.return_, 1) := by decide +kernel
set_option maxRecDepth 20000 in
theorem ggX4_makeFor_X0_pages : GoodIn wsX4_makeFor wsX0_pages := goodIn_r _ [9, 10, 73, 74, 75, 76] (by decide +kernel) (by decide +kernel)
set_option maxRecDepth 20000 in
theorem gX4_makeFor_X0_pages : GoodIn wsX4_makeFor (wsV RX4 41 RX0 yX0_pages wsX0_pages) := goodIn_app (goodIn_of _ (by decide +kernel)) ggX4_makeFor_X0_pages
set_option maxRecDepth 20000 in
theorem ggX4_makeFor_X3_putAll : GoodIn wsX4_makeFor wsX3_putAll := goodIn_r _ [15, 16, 17, 18, 19, 20, 77] (by decide +kernel) (by decide +kernel)
set_option maxRecDepth 20000 in
theorem gX4_makeFor_X3_putAll : GoodIn wsX4_makeFor (wsV RX4 49 RX3 yX3_putAll wsX3_putAll) := goodIn_app (goodIn_of _ (by decide +kernel)) ggX4_makeFor_X3_putAll
set_option maxRecDepth 20000 in
theorem ggX4_makeFor_X4_guessOf : GoodIn wsX4_makeFor wsX4_guessOf := goodIn_r _ [25, 26, 27, 28, 14, 29, 16, 30, 31, 32, 33, 34, 35, 36, 37, 38, 39, 40, 41, 42, 43, 8, 44, 45, 6, 7, 9, 10, 54, 55, 56, 57, 58, 59, 60, 61, 62, 63, 64, 65, 66, 67, 68, 77, 73, 74, 75, 76] (by decide +kernel) (by decide +kernel)
set_option maxRecDepth 20000 in
theorem gX4_makeFor_X4_guessOf : GoodIn wsX4_makeFor (wsV RX4 52 RX4 yX4_guessOf wsX4_guessOf) := goodIn_app (goodIn_of _ (by decide +kernel)) ggX4_makeFor_X4_guessOf
set_option maxRecDepth 20000 in
theorem ggX4_makeFor_X3_put : GoodIn wsX4_makeFor wsX3_put := goodIn_r _ [49, 16, 30, 31, 32, 14, 33, 77] (by decide +kernel) (by decide +kernel)
set_option maxRecDepth 20000 in
theorem gX4_makeFor_X3_put : GoodIn wsX4_makeFor (wsV RX4 56 RX3 yX3_put wsX3_put) := goodIn_app (goodIn_of _ (by decide +kernel)) ggX4_makeFor_X3_put
set_option maxRecDepth 20000 in
theorem ggX4_makeFor_X4_choose : GoodIn wsX4_makeFor wsX4_choose := goodIn_r _ [53, 3, 26, 27, 28, 14, 29, 16, 30, 31, 32, 33, 34, 35, 36, 37, 38, 39, 40, 46, 47, 48, 49, 69, 70, 71, 72, 77, 64, 65, 66, 67, 68] (by decide +kernel) (by decide +kernel)
set_option maxRecDepth 20000 in
theorem gX4_makeFor_X4_choose : GoodIn wsX4_makeFor (wsV RX4 60 RX4 yX4_choose wsX4_choose) := goodIn_app (goodIn_of _ (by decide +kernel)) ggX4_makeFor_X4_choose
theorem dX4_makeFor_0 : decode cX4_makeFor 0 = .ok (.aload_n 0, 1) := by decide +kernel
theorem dX4_makeFor_1 : decode cX4_makeFor 1 = .ok (.aload_n 1, 1) := by decide +kernel
theorem dX4_makeFor_2 : decode cX4_makeFor 2 = .ok (.getfield 23, 3) := by decide +kernel
theorem dX4_makeFor_5 : decode cX4_makeFor 5 = .ok (.getfield 29, 3) := by decide +kernel
theorem dX4_makeFor_8 : decode cX4_makeFor 8 = .ok (.putfield 35, 3) := by decide +kernel
theorem dX4_makeFor_11 : decode cX4_makeFor 11 = .ok (.aload_n 0, 1) := by decide +kernel
theorem dX4_makeFor_12 : decode cX4_makeFor 12 = .ok (.aload_n 1, 1) := by decide +kernel
theorem dX4_makeFor_13 : decode cX4_makeFor 13 = .ok (.getfield 37, 3) := by decide +kernel
theorem dX4_makeFor_16 : decode cX4_makeFor 16 = .ok (.invokevirtual 41, 3) := by decide +kernel
theorem dX4_makeFor_19 : decode cX4_makeFor 19 = .ok (.putfield 47, 3) := by decide +kernel
theorem dX4_makeFor_22 : decode cX4_makeFor 22 = .ok (.aload_n 0, 1) := by decide +kernel
theorem dX4_makeFor_23 : decode cX4_makeFor 23 = .ok (.getfield 20, 3) := by decide +kernel
theorem dX4_makeFor_26 : decode cX4_makeFor 26 = .ok (.bipush (-5), 2) := by decide +kernel
theorem dX4_makeFor_28 : decode cX4_makeFor 28 = .ok (.invokevirtual 49, 3) := by decide +kernel
theorem dX4_makeFor_31 : decode cX4_makeFor 31 = .ok (.bipush (-5), 2) := by decide +kernel
theorem dX4_makeFor_33 : decode cX4_makeFor 33 = .ok (.istore_n 2, 1) := by decide +kernel
theorem dX4_makeFor_34 : decode cX4_makeFor 34 = .ok (.iconst 0, 1) := by decide +kernel
theorem dX4_makeFor_35 : decode cX4_makeFor 35 = .ok (.istore_n 3, 1) := by decide +kernel
theorem dX4_makeFor_36 : decode cX4_makeFor 36 = .ok (.iload_n 3, 1) := by decide +kernel
theorem dX4_makeFor_37 : decode cX4_makeFor 37 = .ok (.aload_n 0, 1) := by decide +kernel
theorem dX4_makeFor_38 : decode cX4_makeFor 38 = .ok (.getfield 35, 3) := by decide +kernel
theorem dX4_makeFor_41 : decode cX4_makeFor 41 = .ok (.if_icmp .ge 49, 3) := by decide +kernel
theorem dX4_makeFor_44 : decode cX4_makeFor 44 = .ok (.aload_n 0, 1) := by decide +kernel
theorem dX4_makeFor_45 : decode cX4_makeFor 45 = .ok (.iload_n 3, 1) := by decide +kernel
theorem dX4_makeFor_46 : decode cX4_makeFor 46 = .ok (.iload_n 2, 1) := by decide +kernel
theorem dX4_makeFor_47 : decode cX4_makeFor 47 = .ok (.aload_n 1, 1) := by decide +kernel
theorem dX4_makeFor_48 : decode cX4_makeFor 48 = .ok (.invokevirtual 52, 3) := by decide +kernel
theorem dX4_makeFor_51 : decode cX4_makeFor 51 = .ok (.istore 4, 2) := by decide +kernel
theorem dX4_makeFor_53 : decode cX4_makeFor 53 = .ok (.aload_n 0, 1) := by decide +kernel
theorem dX4_makeFor_54 : decode cX4_makeFor 54 = .ok (.getfield 14, 3) := by decide +kernel
theorem dX4_makeFor_57 : decode cX4_makeFor 57 = .ok (.iload_n 3, 1) := by decide +kernel
theorem dX4_makeFor_58 : decode cX4_makeFor 58 = .ok (.iload 4, 2) := by decide +kernel
theorem dX4_makeFor_60 : decode cX4_makeFor 60 = .ok (.invokevirtual 56, 3) := by decide +kernel
theorem dX4_makeFor_63 : decode cX4_makeFor 63 = .ok (.iload 4, 2) := by decide +kernel
theorem dX4_makeFor_65 : decode cX4_makeFor 65 = .ok (.bipush (-5), 2) := by decide +kernel
theorem dX4_makeFor_67 : decode cX4_makeFor 67 = .ok (.if_icmp .eq 14, 3) := by decide +kernel
theorem dX4_makeFor_70 : decode cX4_makeFor 70 = .ok (.aload_n 0, 1) := by decide +kernel
theorem dX4_makeFor_71 : decode cX4_makeFor 71 = .ok (.iload_n 3, 1) := by decide +kernel
theorem dX4_makeFor_72 : decode cX4_makeFor 72 = .ok (.iload 4, 2) := by decide +kernel
theorem dX4_makeFor_74 : decode cX4_makeFor 74 = .ok (.aload_n 1, 1) := by decide +kernel
theorem dX4_makeFor_75 : decode cX4_makeFor 75 = .ok (.getfield 23, 3) := by decide +kernel
theorem dX4_makeFor_78 : decode cX4_makeFor 78 = .ok (.invokevirtual 60, 3) := by decide +kernel
theorem dX4_makeFor_81 : decode cX4_makeFor 81 = .ok (.iload 4, 2) := by decide +kernel
theorem dX4_makeFor_83 : decode cX4_makeFor 83 = .ok (.istore_n 2, 1) := by decide +kernel
theorem dX4_makeFor_84 : decode cX4_makeFor 84 = .ok (.iinc 3 1, 3) := by decide +kernel
theorem dX4_makeFor_87 : decode cX4_makeFor 87 = .ok (.goto (-51), 3) := by decide +kernel
theorem dX4_makeFor_90 : decode cX4_makeFor 90 = .ok (.return_, 1) := by decide +kernel
set_option maxRecDepth 20000 in
theorem ggX4_guessOf_X3_at : GoodIn wsX4_guessOf wsX3_at := goodIn_r _ [5, 6, 7, 8, 9, 4, 10, 43] (by decide +kernel) (by decide +kernel)
set_option maxRecDepth 20000 in
theorem gX4_guessOf_X3_at : GoodIn wsX4_guessOf (wsV RX4 67 RX3 yX3_at wsX3_at) := goodIn_app (goodIn_of _ (by decide +kernel)) ggX4_guessOf_X3_at
set_option maxRecDepth 20000 in
theorem ggX4_guessOf_X5_isGood : GoodIn wsX4_guessOf wsX5_isGood := goodIn_r _ [15, 16, 17, 2, 3, 4, 5, 6, 7, 8, 9, 10, 38, 39, 40, 41, 42, 43] (by decide +kernel) (by decide +kernel)
set_option maxRecDepth 20000 in
theorem gX4_guessOf_X5_isGood : GoodIn wsX4_guessOf (wsV RX4 71 RX5 yX5_isGood wsX5_isGood) := goodIn_app (goodIn_of _ (by decide +kernel)) ggX4_guessOf_X5_isGood
set_option maxRecDepth 20000 in
theorem ggX4_guessOf_X0_hasPage : GoodIn wsX4_guessOf wsX0_hasPage := goodIn_r _ [22, 23, 24, 25, 21, 26, 27, 44, 45, 46, 47] (by decide +kernel) (by decide +kernel)
set_option maxRecDepth 20000 in
theorem gX4_guessOf_X0_hasPage : GoodIn wsX4_guessOf (wsV RX4 78 RX0 yX0_hasPage wsX0_hasPage) := goodIn_app (goodIn_of _ (by decide +kernel)) ggX4_guessOf_X0_hasPage
theorem dX4_guessOf_0 : decode cX4_guessOf 0 = .ok (.aload_n 3, 1) := by decide +kernel
theorem dX4_guessOf_1 : decode cX4_guessOf 1 = .ok (.getfield 23, 3) := by decide +kernel
theorem dX4_guessOf_4 : decode cX4_guessOf 4 = .ok (.getfield 64, 3) := by decide +kernel
theorem dX4_guessOf_7 : decode cX4_guessOf 7 = .ok (.iload_n 1, 1) := by decide +kernel
theorem dX4_guessOf_8 : decode cX4_guessOf 8 = .ok (.invokevirtual 67, 3) := by decide +kernel
theorem dX4_guessOf_11 : decode cX4_guessOf 11 = .ok (.istore 4, 2) := by decide +kernel
theorem dX4_guessOf_13 : decode cX4_guessOf 13 = .ok (.iload 4, 2) := by decide +kernel
theorem dX4_guessOf_15 : decode cX4_guessOf 15 = .ok (.bipush (-5), 2) := by decide +kernel
theorem dX4_guessOf_17 : decode cX4_guessOf 17 = .ok (.if_icmp .eq 42, 3) := by decide +kernel
theorem dX4_guessOf_20 : decode cX4_guessOf 20 = .ok (.aload_n 3, 1) := by decide +kernel
theorem dX4_guessOf_21 : decode cX4_guessOf 21 = .ok (.getfield 23, 3) := by decide +kernel
theorem dX4_guessOf_24 : decode cX4_guessOf 24 = .ok (.iload_n 1, 1) := by decide +kernel
theorem dX4_guessOf_25 : decode cX4_guessOf 25 = .ok (.invokevirtual 71, 3) := by decide +kernel
theorem dX4_guessOf_28 : decode cX4_guessOf 28 = .ok (.ifCond .eq 31, 3) := by decide +kernel
theorem dX4_guessOf_31 : decode cX4_guessOf 31 = .ok (.iload 4, 2) := by decide +kernel
theorem dX4_guessOf_33 : decode cX4_guessOf 33 = .ok (.aload_n 3, 1) := by decide +kernel
theorem dX4_guessOf_34 : decode cX4_guessOf 34 = .ok (.getfield 75, 3) := by decide +kernel
theorem dX4_guessOf_37 : decode cX4_guessOf 37 = .ok (.iconst 2, 1) := by decide +kernel
theorem dX4_guessOf_38 : decode cX4_guessOf 38 = .ok (.invokevirtual 67, 3) := by decide +kernel
theorem dX4_guessOf_41 : decode cX4_guessOf 41 = .ok (.isub, 1) := by decide +kernel
theorem dX4_guessOf_42 : decode cX4_guessOf 42 = .ok (.istore 5, 2) := by decide +kernel
theorem dX4_guessOf_44 : decode cX4_guessOf 44 = .ok (.aload_n 3, 1) := by decide +kernel
theorem dX4_guessOf_45 : decode cX4_guessOf 45 = .ok (.getfield 37, 3) := by decide +kernel
theorem dX4_guessOf_48 : decode cX4_guessOf 48 = .ok (.iload 5, 2) := by decide +kernel
theorem dX4_guessOf_50 : decode cX4_guessOf 50 = .ok (.invokevirtual 78, 3) := by decide +kernel
theorem dX4_guessOf_53 : decode cX4_guessOf 53 = .ok (.ifCond .eq 6, 3) := by decide +kernel
theorem dX4_guessOf_56 : decode cX4_guessOf 56 = .ok (.iload 5, 2) := by decide +kernel
theorem dX4_guessOf_58 : decode cX4_guessOf 58 = .ok (.ireturn, 1) := by decide +kernel
theorem dX4_guessOf_59 : decode cX4_guessOf 59 = .ok (.iload_n 2, 1) := by decide +kernel
theorem dX4_guessOf_60 : decode cX4_guessOf 60 = .ok (.bipush (-5), 2) := by decide +kernel
theorem dX4_guessOf_62 : decode cX4_guessOf 62 = .ok (.if_icmp .eq 20, 3) := by decide +kernel
theorem dX4_guessOf_65 : decode cX4_guessOf 65 = .ok (.aload_n 3, 1) := by decide +kernel
theorem dX4_guessOf_66 : decode cX4_guessOf 66 = .ok (.getfield 37, 3) := by decide +kernel
theorem dX4_guessOf_69 : decode cX4_guessOf 69 = .ok (.iload_n 2, 1) := by decide +kernel
theorem dX4_guessOf_70 : decode cX4_guessOf 70 = .ok (.iconst 1, 1) := by decide +kernel
theorem dX4_guessOf_71 : decode cX4_guessOf 71 = .ok (.iadd, 1) := by decide +kernel
theorem dX4_guessOf_72 : decode cX4_guessOf 72 = .ok (.invokevirtual 78, 3) := by decide +kernel
theorem dX4_guessOf_75 : decode cX4_guessOf 75 = .ok (.ifCond .eq 7, 3) := by decide +kernel
theorem dX4_guessOf_78 : decode cX4_guessOf 78 = .ok (.iload_n 2, 1) := by decide +kernel
theorem dX4_guessOf_79 : decode cX4_guessOf 79 = .ok (.iconst 1, 1) := by decide +kernel
theorem dX4_guessOf_80 : decode cX4_guessOf 80 = .ok (.iadd, 1) := by decide +kernel
theorem dX4_guessOf_81 : decode cX4_guessOf 81 = .ok (.ireturn, 1) := by decide +kernel
theorem dX4_guessOf_82 : decode cX4_guessOf 82 = .ok (.bipush (-5), 2) := by decide +kernel
theorem dX4_guessOf_84 : decode cX4_guessOf 84 = .ok (.ireturn, 1) := by decide +kernel
set_option maxRecDepth 20000 in
theorem ggX4_choose_X3_at : GoodIn wsX4_choose wsX3_at := goodIn_r _ [6, 7, 8, 9, 10, 5, 11, 27] (by decide +kernel) (by decide +kernel)
set_option maxRecDepth 20000 in
theorem gX4_choose_X3_at : GoodIn wsX4_choose (wsV RX4 67 RX3 yX3_at wsX3_at) := goodIn_app (goodIn_of _ (by decide +kernel)) ggX4_choose_X3_at
set_option maxRecDepth 20000 in
theorem ggX4_choose_X5_isGood : GoodIn wsX4_choose wsX5_isGood := goodIn_r _ [16, 17, 18, 3, 4, 5, 6, 7, 8, 9, 10, 11, 28, 29, 30, 31, 32, 27] (by decide +kernel) (by decide +kernel)
set_option maxRecDepth 20000 in
theorem gX4_choose_X5_isGood : GoodIn wsX4_choose (wsV RX4 71 RX5 yX5_isGood wsX5_isGood) := goodIn_app (goodIn_of _ (by decide +kernel)) ggX4_choose_X5_isGood
set_option maxRecDepth 20000 in
theorem ggX4_choose_X3_put : GoodIn wsX4_choose wsX3_put := goodIn_r _ [22, 7, 8, 9, 10, 5, 11, 27] (by decide +kernel) (by decide +kernel)
set_option maxRecDepth 20000 in
theorem gX4_choose_X3_put : GoodIn wsX4_choose (wsV RX4 56 RX3 yX3_put wsX3_put) := goodIn_app (goodIn_of _ (by decide +kernel)) ggX4_choose_X3_put
theorem dX4_choose_0 : decode cX4_choose 0 = .ok (.aload_n 0, 1) := by decide +kernel
theorem dX4_choose_1 : decode cX4_choose 1 = .ok (.getfield 20, 3) := by decide +kernel
theorem dX4_choose_4 : decode cX4_choose 4 = .ok (.iload_n 2, 1) := by decide +kernel
theorem dX4_choose_5 : decode cX4_choose 5 = .ok (.invokevirtual 67, 3) := by decide +kernel
theorem dX4_choose_8 : decode cX4_choose 8 = .ok (.istore 4, 2) := by decide +kernel
theorem dX4_choose_10 : decode cX4_choose 10 = .ok (.iload 4, 2) := by decide +kernel
theorem dX4_choose_12 : decode cX4_choose 12 = .ok (.bipush (-5), 2) := by decide +kernel
theorem dX4_choose_14 : decode cX4_choose 14 = .ok (.if_icmp .eq 20, 3) := by decide +kernel
theorem dX4_choose_17 : decode cX4_choose 17 = .ok (.aload_n 3, 1) := by decide +kernel
theorem dX4_choose_18 : decode cX4_choose 18 = .ok (.iload 4, 2) := by decide +kernel
theorem dX4_choose_20 : decode cX4_choose 20 = .ok (.invokevirtual 71, 3) := by decide +kernel
theorem dX4_choose_23 : decode cX4_choose 23 = .ok (.ifCond .ne 20, 3) := by decide +kernel
theorem dX4_choose_26 : decode cX4_choose 26 = .ok (.aload_n 3, 1) := by decide +kernel
theorem dX4_choose_27 : decode cX4_choose 27 = .ok (.iload_n 1, 1) := by decide +kernel
theorem dX4_choose_28 : decode cX4_choose 28 = .ok (.invokevirtual 71, 3) := by decide +kernel
theorem dX4_choose_31 : decode cX4_choose 31 = .ok (.ifCond .eq 12, 3) := by decide +kernel
theorem dX4_choose_34 : decode cX4_choose 34 = .ok (.aload_n 0, 1) := by decide +kernel
theorem dX4_choose_35 : decode cX4_choose 35 = .ok (.getfield 20, 3) := by decide +kernel
theorem dX4_choose_38 : decode cX4_choose 38 = .ok (.iload_n 2, 1) := by decide +kernel
theorem dX4_choose_39 : decode cX4_choose 39 = .ok (.iload_n 1, 1) := by decide +kernel
theorem dX4_choose_40 : decode cX4_choose 40 = .ok (.invokevirtual 56, 3) := by decide +kernel
theorem dX4_choose_43 : decode cX4_choose 43 = .ok (.return_, 1) := by decide +kernel
set_option maxRecDepth 20000 in
theorem ggX4_isSpare_X3_at : GoodIn wsX4_isSpare wsX3_at := goodIn_r _ [7, 8, 9, 10, 11, 6, 12, 17] (by decide +kernel) (by decide +kernel)
set_option maxRecDepth 20000 in
theorem gX4_isSpare_X3_at : GoodIn wsX4_isSpare (wsV RX4 67 RX3 yX3_at wsX3_at) := goodIn_app (goodIn_of _ (by decide +kernel)) ggX4_isSpare_X3_at
theorem dX4_isSpare_0 : decode cX4_isSpare 0 = .ok (.aload_n 0, 1) := by decide +kernel
theorem dX4_isSpare_1 : decode cX4_isSpare 1 = .ok (.getfield 14, 3) := by decide +kernel
theorem dX4_isSpare_4 : decode cX4_isSpare 4 = .ok (.iload_n 1, 1) := by decide +kernel
theorem dX4_isSpare_5 : decode cX4_isSpare 5 = .ok (.invokevirtual 67, 3) := by decide +kernel
theorem dX4_isSpare_8 : decode cX4_isSpare 8 = .ok (.istore_n 2, 1) := by decide +kernel
theorem dX4_isSpare_9 : decode cX4_isSpare 9 = .ok (.iload_n 2, 1) := by decide +kernel
theorem dX4_isSpare_10 : decode cX4_isSpare 10 = .ok (.bipush (-5), 2) := by decide +kernel
theorem dX4_isSpare_12 : decode cX4_isSpare 12 = .ok (.if_icmp .eq 15, 3) := by decide +kernel
theorem dX4_isSpare_15 : decode cX4_isSpare 15 = .ok (.aload_n 0, 1) := by decide +kernel
theorem dX4_isSpare_16 : decode cX4_isSpare 16 = .ok (.getfield 20, 3) := by decide +kernel
theorem dX4_isSpare_19 : decode cX4_isSpare 19 = .ok (.iload_n 2, 1) := by decide +kernel
theorem dX4_isSpare_20 : decode cX4_isSpare 20 = .ok (.invokevirtual 67, 3) := by decide +kernel
theorem dX4_isSpare_23 : decode cX4_isSpare 23 = .ok (.iload_n 1, 1) := by decide +kernel
theorem dX4_isSpare_24 : decode cX4_isSpare 24 = .ok (.if_icmp .eq 7, 3) := by decide +kernel
theorem dX4_isSpare_27 : decode cX4_isSpare 27 = .ok (.iconst 1, 1) := by decide +kernel
theorem dX4_isSpare_28 : decode cX4_isSpare 28 = .ok (.goto 4, 3) := by decide +kernel
theorem dX4_isSpare_31 : decode cX4_isSpare 31 = .ok (.iconst 0, 1) := by decide +kernel
theorem dX4_isSpare_32 : decode cX4_isSpare 32 = .ok (.ireturn, 1) := by decide +kernel
set_option maxRecDepth 20000 in
theorem ggX4_isDoubtful_X3_at : GoodIn wsX4_isDoubtful wsX3_at := goodIn_r _ [6, 7, 8, 9, 10, 5, 11, 21] (by decide +kernel) (by decide +kernel)
set_option maxRecDepth 20000 in
theorem gX4_isDoubtful_X3_at : GoodIn wsX4_isDoubtful (wsV RX4 67 RX3 yX3_at wsX3_at) := goodIn_app (goodIn_of _ (by decide +kernel)) ggX4_isDoubtful_X3_at
theorem dX4_isDoubtful_0 : decode cX4_isDoubtful 0 = .ok (.aload_n 0, 1) := by decide +kernel
theorem dX4_isDoubtful_1 : decode cX4_isDoubtful 1 = .ok (.getfield 20, 3) := by decide +kernel
theorem dX4_isDoubtful_4 : decode cX4_isDoubtful 4 = .ok (.iload_n 1, 1) := by decide +kernel
theorem dX4_isDoubtful_5 : decode cX4_isDoubtful 5 = .ok (.invokevirtual 67, 3) := by decide +kernel
theorem dX4_isDoubtful_8 : decode cX4_isDoubtful 8 = .ok (.istore_n 3, 1) := by decide +kernel
theorem dX4_isDoubtful_9 : decode cX4_isDoubtful 9 = .ok (.iload_n 3, 1) := by decide +kernel
theorem dX4_isDoubtful_10 : decode cX4_isDoubtful 10 = .ok (.bipush (-5), 2) := by decide +kernel
theorem dX4_isDoubtful_12 : decode cX4_isDoubtful 12 = .ok (.if_icmp .eq 19, 3) := by decide +kernel
theorem dX4_isDoubtful_15 : decode cX4_isDoubtful 15 = .ok (.aload_n 2, 1) := by decide +kernel
theorem dX4_isDoubtful_16 : decode cX4_isDoubtful 16 = .ok (.getfield 81, 3) := by decide +kernel
theorem dX4_isDoubtful_19 : decode cX4_isDoubtful 19 = .ok (.iload_n 3, 1) := by decide +kernel
theorem dX4_isDoubtful_20 : decode cX4_isDoubtful 20 = .ok (.invokevirtual 67, 3) := by decide +kernel
theorem dX4_isDoubtful_23 : decode cX4_isDoubtful 23 = .ok (.iload_n 1, 1) := by decide +kernel
theorem dX4_isDoubtful_24 : decode cX4_isDoubtful 24 = .ok (.if_icmp .eq 7, 3) := by decide +kernel
theorem dX4_isDoubtful_27 : decode cX4_isDoubtful 27 = .ok (.iconst 1, 1) := by decide +kernel
theorem dX4_isDoubtful_28 : decode cX4_isDoubtful 28 = .ok (.goto 4, 3) := by decide +kernel
theorem dX4_isDoubtful_31 : decode cX4_isDoubtful 31 = .ok (.iconst 0, 1) := by decide +kernel
theorem dX4_isDoubtful_32 : decode cX4_isDoubtful 32 = .ok (.ireturn, 1) := by decide +kernel
set_option maxRecDepth 20000 in
theorem ggX4_lackingAt_X3_at : GoodIn wsX4_lackingAt wsX3_at := goodIn_r _ [7, 8, 9, 10, 11, 6, 12, 17] (by decide +kernel) (by decide +kernel)
set_option maxRecDepth 20000 in
theorem gX4_lackingAt_X3_at : GoodIn wsX4_lackingAt (wsV RX4 67 RX3 yX3_at wsX3_at) := goodIn_app (goodIn_of _ (by decide +kernel)) ggX4_lackingAt_X3_at
theorem dX4_lackingAt_0 : decode cX4_lackingAt 0 = .ok (.iconst 0, 1) := by decide +kernel
theorem dX4_lackingAt_1 : decode cX4_lackingAt 1 = .ok (.istore_n 2, 1) := by decide +kernel
theorem dX4_lackingAt_2 : decode cX4_lackingAt 2 = .ok (.iconst 0, 1) := by decide +kernel
theorem dX4_lackingAt_3 : decode cX4_lackingAt 3 = .ok (.istore_n 3, 1) := by decide +kernel
theorem dX4_lackingAt_4 : decode cX4_lackingAt 4 = .ok (.iload_n 3, 1) := by decide +kernel
theorem dX4_lackingAt_5 : decode cX4_lackingAt 5 = .ok (.aload_n 0, 1) := by decide +kernel
theorem dX4_lackingAt_6 : decode cX4_lackingAt 6 = .ok (.getfield 47, 3) := by decide +kernel
theorem dX4_lackingAt_9 : decode cX4_lackingAt 9 = .ok (.if_icmp .ge 32, 3) := by decide +kernel
theorem dX4_lackingAt_12 : decode cX4_lackingAt 12 = .ok (.aload_n 0, 1) := by decide +kernel
theorem dX4_lackingAt_13 : decode cX4_lackingAt 13 = .ok (.getfield 20, 3) := by decide +kernel
theorem dX4_lackingAt_16 : decode cX4_lackingAt 16 = .ok (.iload_n 3, 1) := by decide +kernel
theorem dX4_lackingAt_17 : decode cX4_lackingAt 17 = .ok (.invokevirtual 67, 3) := by decide +kernel
theorem dX4_lackingAt_20 : decode cX4_lackingAt 20 = .ok (.bipush (-5), 2) := by decide +kernel
theorem dX4_lackingAt_22 : decode cX4_lackingAt 22 = .ok (.if_icmp .ne 13, 3) := by decide +kernel
theorem dX4_lackingAt_25 : decode cX4_lackingAt 25 = .ok (.iload_n 2, 1) := by decide +kernel
theorem dX4_lackingAt_26 : decode cX4_lackingAt 26 = .ok (.iload_n 1, 1) := by decide +kernel
theorem dX4_lackingAt_27 : decode cX4_lackingAt 27 = .ok (.if_icmp .ne 5, 3) := by decide +kernel
theorem dX4_lackingAt_30 : decode cX4_lackingAt 30 = .ok (.iload_n 3, 1) := by decide +kernel
theorem dX4_lackingAt_31 : decode cX4_lackingAt 31 = .ok (.ireturn, 1) := by decide +kernel
theorem dX4_lackingAt_32 : decode cX4_lackingAt 32 = .ok (.iinc 2 1, 3) := by decide +kernel
theorem dX4_lackingAt_35 : decode cX4_lackingAt 35 = .ok (.iinc 3 1, 3) := by decide +kernel
theorem dX4_lackingAt_38 : decode cX4_lackingAt 38 = .ok (.goto (-34), 3) := by decide +kernel
theorem dX4_lackingAt_41 : decode cX4_lackingAt 41 = .ok (.bipush (-5), 2) := by decide +kernel
theorem dX4_lackingAt_43 : decode cX4_lackingAt 43 = .ok (.ireturn, 1) := by decide +kernel
set_option maxRecDepth 20000 in
theorem ggX4_howManyLack_X3_at : GoodIn wsX4_howManyLack wsX3_at := goodIn_r _ [7, 8, 9, 10, 11, 6, 12, 17] (by decide +kernel) (by decide +kernel)
set_option maxRecDepth 20000 in
theorem gX4_howManyLack_X3_at : GoodIn wsX4_howManyLack (wsV RX4 67 RX3 yX3_at wsX3_at) := goodIn_app (goodIn_of _ (by decide +kernel)) ggX4_howManyLack_X3_at
theorem dX4_howManyLack_0 : decode cX4_howManyLack 0 = .ok (.iconst 0, 1) := by decide +kernel
theorem dX4_howManyLack_1 : decode cX4_howManyLack 1 = .ok (.istore_n 1, 1) := by decide +kernel
theorem dX4_howManyLack_2 : decode cX4_howManyLack 2 = .ok (.iconst 0, 1) := by decide +kernel
theorem dX4_howManyLack_3 : decode cX4_howManyLack 3 = .ok (.istore_n 2, 1) := by decide +kernel
theorem dX4_howManyLack_4 : decode cX4_howManyLack 4 = .ok (.iload_n 2, 1) := by decide +kernel
theorem dX4_howManyLack_5 : decode cX4_howManyLack 5 = .ok (.aload_n 0, 1) := by decide +kernel
theorem dX4_howManyLack_6 : decode cX4_howManyLack 6 = .ok (.getfield 47, 3) := by decide +kernel
theorem dX4_howManyLack_9 : decode cX4_howManyLack 9 = .ok (.if_icmp .ge 25, 3) := by decide +kernel
theorem dX4_howManyLack_12 : decode cX4_howManyLack 12 = .ok (.aload_n 0, 1) := by decide +kernel
theorem dX4_howManyLack_13 : decode cX4_howManyLack 13 = .ok (.getfield 20, 3) := by decide +kernel
theorem dX4_howManyLack_16 : decode cX4_howManyLack 16 = .ok (.iload_n 2, 1) := by decide +kernel
theorem dX4_howManyLack_17 : decode cX4_howManyLack 17 = .ok (.invokevirtual 67, 3) := by decide +kernel
theorem dX4_howManyLack_20 : decode cX4_howManyLack 20 = .ok (.bipush (-5), 2) := by decide +kernel
theorem dX4_howManyLack_22 : decode cX4_howManyLack 22 = .ok (.if_icmp .ne 6, 3) := by decide +kernel
theorem dX4_howManyLack_25 : decode cX4_howManyLack 25 = .ok (.iinc 1 1, 3) := by decide +kernel
theorem dX4_howManyLack_28 : decode cX4_howManyLack 28 = .ok (.iinc 2 1, 3) := by decide +kernel
theorem dX4_howManyLack_31 : decode cX4_howManyLack 31 = .ok (.goto (-27), 3) := by decide +kernel
theorem dX4_howManyLack_34 : decode cX4_howManyLack 34 = .ok (.iload_n 1, 1) := by decide +kernel
theorem dX4_howManyLack_35 : decode cX4_howManyLack 35 = .ok (.ireturn, 1) := by decide +kernel
set_option maxRecDepth 20000 in
theorem ggX4_howManyDoubtful_X4_isDoubtful : GoodIn wsX4_howManyDoubtful wsX4_isDoubtful := goodIn_r _ [6, 7, 8, 9, 10, 11, 12, 13, 14, 15, 16, 17, 18, 19, 20, 21, 22, 23, 24, 25, 26, 27] (by decide +kernel) (by decide +kernel)
set_option maxRecDepth 20000 in
theorem gX4_howManyDoubtful_X4_isDoubtful : GoodIn wsX4_howManyDoubtful (wsV RX4 83 RX4 yX4_isDoubtful wsX4_isDoubtful) := goodIn_app (goodIn_of _ (by decide +kernel)) ggX4_howManyDoubtful_X4_isDoubtful
theorem dX4_howManyDoubtful_0 : decode cX4_howManyDoubtful 0 = .ok (.iconst 0, 1) := by decide +kernel
theorem dX4_howManyDoubtful_1 : decode cX4_howManyDoubtful 1 = .ok (.istore_n 2, 1) := by decide +kernel
theorem dX4_howManyDoubtful_2 : decode cX4_howManyDoubtful 2 = .ok (.iconst 0, 1) := by decide +kernel
theorem dX4_howManyDoubtful_3 : decode cX4_howManyDoubtful 3 = .ok (.istore_n 3, 1) := by decide +kernel
theorem dX4_howManyDoubtful_4 : decode cX4_howManyDoubtful 4 = .ok (.iload_n 3, 1) := by decide +kernel
theorem dX4_howManyDoubtful_5 : decode cX4_howManyDoubtful 5 = .ok (.aload_n 0, 1) := by decide +kernel
theorem dX4_howManyDoubtful_6 : decode cX4_howManyDoubtful 6 = .ok (.getfield 47, 3) := by decide +kernel
theorem dX4_howManyDoubtful_9 : decode cX4_howManyDoubtful 9 = .ok (.if_icmp .ge 21, 3) := by decide +kernel
theorem dX4_howManyDoubtful_12 : decode cX4_howManyDoubtful 12 = .ok (.aload_n 0, 1) := by decide +kernel
theorem dX4_howManyDoubtful_13 : decode cX4_howManyDoubtful 13 = .ok (.iload_n 3, 1) := by decide +kernel
theorem dX4_howManyDoubtful_14 : decode cX4_howManyDoubtful 14 = .ok (.aload_n 1, 1) := by decide +kernel
theorem dX4_howManyDoubtful_15 : decode cX4_howManyDoubtful 15 = .ok (.invokevirtual 83, 3) := by decide +kernel
theorem dX4_howManyDoubtful_18 : decode cX4_howManyDoubtful 18 = .ok (.ifCond .eq 6, 3) := by decide +kernel
theorem dX4_howManyDoubtful_21 : decode cX4_howManyDoubtful 21 = .ok (.iinc 2 1, 3) := by decide +kernel
theorem dX4_howManyDoubtful_24 : decode cX4_howManyDoubtful 24 = .ok (.iinc 3 1, 3) := by decide +kernel
theorem dX4_howManyDoubtful_27 : decode cX4_howManyDoubtful 27 = .ok (.goto (-23), 3) := by decide +kernel
theorem dX4_howManyDoubtful_30 : decode cX4_howManyDoubtful 30 = .ok (.iload_n 2, 1) := by decide +kernel
theorem dX4_howManyDoubtful_31 : decode cX4_howManyDoubtful 31 = .ok (.ireturn, 1) := by decide +kernel
set_option maxRecDepth 20000 in
theorem ggX4_howManySpare_X4_isSpare : GoodIn wsX4_howManySpare wsX4_isSpare := goodIn_r _ [6, 7, 8, 9, 10, 11, 12, 13, 14, 15, 16, 17, 18, 19, 20, 21, 22, 23] (by decide +kernel) (by decide +kernel)
set_option maxRecDepth 20000 in
theorem gX4_howManySpare_X4_isSpare : GoodIn wsX4_howManySpare (wsV RX4 87 RX4 yX4_isSpare wsX4_isSpare) := goodIn_app (goodIn_of _ (by decide +kernel)) ggX4_howManySpare_X4_isSpare
theorem dX4_howManySpare_0 : decode cX4_howManySpare 0 = .ok (.iconst 0, 1) := by decide +kernel
theorem dX4_howManySpare_1 : decode cX4_howManySpare 1 = .ok (.istore_n 1, 1) := by decide +kernel
theorem dX4_howManySpare_2 : decode cX4_howManySpare 2 = .ok (.iconst 0, 1) := by decide +kernel
theorem dX4_howManySpare_3 : decode cX4_howManySpare 3 = .ok (.istore_n 2, 1) := by decide +kernel
theorem dX4_howManySpare_4 : decode cX4_howManySpare 4 = .ok (.iload_n 2, 1) := by decide +kernel
theorem dX4_howManySpare_5 : decode cX4_howManySpare 5 = .ok (.aload_n 0, 1) := by decide +kernel
theorem dX4_howManySpare_6 : decode cX4_howManySpare 6 = .ok (.getfield 35, 3) := by decide +kernel
theorem dX4_howManySpare_9 : decode cX4_howManySpare 9 = .ok (.if_icmp .ge 20, 3) := by decide +kernel
theorem dX4_howManySpare_12 : decode cX4_howManySpare 12 = .ok (.aload_n 0, 1) := by decide +kernel
theorem dX4_howManySpare_13 : decode cX4_howManySpare 13 = .ok (.iload_n 2, 1) := by decide +kernel
theorem dX4_howManySpare_14 : decode cX4_howManySpare 14 = .ok (.invokevirtual 87, 3) := by decide +kernel
theorem dX4_howManySpare_17 : decode cX4_howManySpare 17 = .ok (.ifCond .eq 6, 3) := by decide +kernel
theorem dX4_howManySpare_20 : decode cX4_howManySpare 20 = .ok (.iinc 1 1, 3) := by decide +kernel
theorem dX4_howManySpare_23 : decode cX4_howManySpare 23 = .ok (.iinc 2 1, 3) := by decide +kernel
theorem dX4_howManySpare_26 : decode cX4_howManySpare 26 = .ok (.goto (-22), 3) := by decide +kernel
theorem dX4_howManySpare_29 : decode cX4_howManySpare 29 = .ok (.iload_n 1, 1) := by decide +kernel
theorem dX4_howManySpare_30 : decode cX4_howManySpare 30 = .ok (.ireturn, 1) := by decide +kernel
set_option maxRecDepth 20000 in
theorem ggX4_howManyNotGuessed_X3_at : GoodIn wsX4_howManyNotGuessed wsX3_at := goodIn_r _ [7, 8, 9, 10, 11, 6, 12, 17] (by decide +kernel) (by decide +kernel)
set_option maxRecDepth 20000 in
theorem gX4_howManyNotGuessed_X3_at : GoodIn wsX4_howManyNotGuessed (wsV RX4 67 RX3 yX3_at wsX3_at) := goodIn_app (goodIn_of _ (by decide +kernel)) ggX4_howManyNotGuessed_X3_at
theorem dX4_howManyNotGuessed_0 : decode cX4_howManyNotGuessed 0 = .ok (.iconst 0, 1) := by decide +kernel
theorem dX4_howManyNotGuessed_1 : decode cX4_howManyNotGuessed 1 = .ok (.istore_n 1, 1) := by decide +kernel
theorem dX4_howManyNotGuessed_2 : decode cX4_howManyNotGuessed 2 = .ok (.iconst 0, 1) := by decide +kernel
theorem dX4_howManyNotGuessed_3 : decode cX4_howManyNotGuessed 3 = .ok (.istore_n 2, 1) := by decide +kernel
theorem dX4_howManyNotGuessed_4 : decode cX4_howManyNotGuessed 4 = .ok (.iload_n 2, 1) := by decide +kernel
theorem dX4_howManyNotGuessed_5 : decode cX4_howManyNotGuessed 5 = .ok (.aload_n 0, 1) := by decide +kernel
theorem dX4_howManyNotGuessed_6 : decode cX4_howManyNotGuessed 6 = .ok (.getfield 35, 3) := by decide +kernel
theorem dX4_howManyNotGuessed_9 : decode cX4_howManyNotGuessed 9 = .ok (.if_icmp .ge 25, 3) := by decide +kernel
theorem dX4_howManyNotGuessed_12 : decode cX4_howManyNotGuessed 12 = .ok (.aload_n 0, 1) := by decide +kernel
theorem dX4_howManyNotGuessed_13 : decode cX4_howManyNotGuessed 13 = .ok (.getfield 14, 3) := by decide +kernel
theorem dX4_howManyNotGuessed_16 : decode cX4_howManyNotGuessed 16 = .ok (.iload_n 2, 1) := by decide +kernel
theorem dX4_howManyNotGuessed_17 : decode cX4_howManyNotGuessed 17 = .ok (.invokevirtual 67, 3) := by decide +kernel
theorem dX4_howManyNotGuessed_20 : decode cX4_howManyNotGuessed 20 = .ok (.bipush (-5), 2) := by decide +kernel
theorem dX4_howManyNotGuessed_22 : decode cX4_howManyNotGuessed 22 = .ok (.if_icmp .ne 6, 3) := by decide +kernel
theorem dX4_howManyNotGuessed_25 : decode cX4_howManyNotGuessed 25 = .ok (.iinc 1 1, 3) := by decide +kernel
theorem dX4_howManyNotGuessed_28 : decode cX4_howManyNotGuessed 28 = .ok (.iinc 2 1, 3) := by decide +kernel
theorem dX4_howManyNotGuessed_31 : decode cX4_howManyNotGuessed 31 = .ok (.goto (-27), 3) := by decide +kernel
theorem dX4_howManyNotGuessed_34 : decode cX4_howManyNotGuessed 34 = .ok (.iload_n 1, 1) := by decide +kernel
theorem dX4_howManyNotGuessed_35 : decode cX4_howManyNotGuessed 35 = .ok (.ireturn, 1) := by decide +kernel
set_option maxRecDepth 20000 in
theorem ggX5_init_X3_init : GoodIn wsX5_init wsX3_init := goodIn_r _ [14, 15, 2, 3, 16, 17, 18, 19, 20, 21, 22] (by decide +kernel) (by decide +kernel)
set_option maxRecDepth 20000 in
theorem gX5_init_X3_init : GoodIn wsX5_init (wsX3_init) := ggX5_init_X3_init
theorem dX5_init_0 : decode cX5_init 0 = .ok (.aload_n 0, 1) := by decide +kernel
theorem dX5_init_1 : decode cX5_init 1 = .ok (.invokespecial 3, 3) := by decide +kernel
theorem dX5_init_4 : decode cX5_init 4 = .ok (.aload_n 0, 1) := by decide +kernel
theorem dX5_init_5 : decode cX5_init 5 = .ok (.new 9, 3) := by decide +kernel
theorem dX5_init_8 : decode cX5_init 8 = .ok (.dup, 1) := by decide +kernel
theorem dX5_init_9 : decode cX5_init 9 = .ok (.bipush 80, 2) := by decide +kernel
theorem dX5_init_11 : decode cX5_init 11 = .ok (.invokespecial 11, 3) := by decide +kernel
theorem dX5_init_14 : decode cX5_init 14 = .ok (.putfield 14, 3) := by decide +kernel
theorem dX5_init_17 : decode cX5_init 17 = .ok (.aload_n 0, 1) := by decide +kernel
theorem dX5_init_18 : decode cX5_init 18 = .ok (.new 9, 3) := by decide +kernel
theorem dX5_init_21 : decode cX5_init 21 = .ok (.dup, 1) := by decide +kernel
theorem dX5_init_22 : decode cX5_init 22 = .ok (.bipush 80, 2) := by decide +kernel
theorem dX5_init_24 : decode cX5_init 24 = .ok (.invokespecial 11, 3) := by decide +kernel
theorem dX5_init_27 : decode cX5_init 27 = .ok (.putfield 20, 3) := by decide +kernel
theorem dX5_init_30 : decode cX5_init 30 = .ok (.aload_n 0, 1) := by decide +kernel
theorem dX5_init_31 : decode cX5_init 31 = .ok (.new 9, 3) := by decide +kernel
theorem dX5_init_34 : decode cX5_init 34 = .ok (.dup, 1) := by decide +kernel
theorem dX5_init_35 : decode cX5_init 35 = .ok (.bipush 80, 2) := by decide +kernel
theorem dX5_init_37 : decode cX5_init 37 = .ok (.invokespecial 11, 3) := by decide +kernel
theorem dX5_init_40 : decode cX5_init 40 = .ok (.putfield 23, 3) := by decide +kernel
theorem dX5_init_43 : decode cX5_init 43 = .ok (.aload_n 0, 1) := by decide +kernel
theorem dX5_init_44 : decode cX5_init 44 = .ok (.new 9, 3) := by decide +kernel
theorem dX5_init_47 : decode cX5_init 47 = .ok (.dup, 1) := by decide +kernel
theorem dX5_init_48 : decode cX5_init 48 = .ok (.bipush 80, 2) := by decide +kernel
theorem dX5_init_50 : decode cX5_init 50 = .ok (.invokespecial 11, 3) := by decide +kernel
theorem dX5_init_53 : decode cX5_init 53 = .ok (.putfield 26, 3) := by decide +kernel
theorem dX5_init_56 : decode cX5_init 56 = .ok (.aload_n 0, 1) := by decide +kernel
theorem dX5_init_57 : decode cX5_init 57 = .ok (.iconst 0, 1) := by decide +kernel
theorem dX5_init_58 : decode cX5_init 58 = .ok (.putfield 29, 3) := by decide +kernel
theorem dX5_init_61 : decode cX5_init 61 = .ok (.return_, 1) := by decide +kernel
theorem dX5_has_0 : decode cX5_has 0 = .ok (.iload_n 1, 1) := by decide +kernel
theorem dX5_has_1 : decode cX5_has 1 = .ok (.ifCond .lt 15, 3) := by decide +kernel
theorem dX5_has_4 : decode cX5_has 4 = .ok (.iload_n 1, 1) := by decide +kernel
theorem dX5_has_5 : decode cX5_has 5 = .ok (.aload_n 0, 1) := by decide +kernel
theorem dX5_has_6 : decode cX5_has 6 = .ok (.getfield 29, 3) := by decide +kernel
theorem dX5_has_9 : decode cX5_has 9 = .ok (.if_icmp .ge 7, 3) := by decide +kernel
theorem dX5_has_12 : decode cX5_has 12 = .ok (.iconst 1, 1) := by decide +kernel
theorem dX5_has_13 : decode cX5_has 13 = .ok (.goto 4, 3) := by decide +kernel
theorem dX5_has_16 : decode cX5_has 16 = .ok (.iconst 0, 1) := by decide +kernel
theorem dX5_has_17 : decode cX5_has 17 = .ok (.ireturn, 1) := by decide +kernel
set_option maxRecDepth 20000 in
theorem ggX5_isGood_X3_at : GoodIn wsX5_isGood wsX3_at := goodIn_r _ [6, 7, 8, 9, 10, 5, 11, 17] (by decide +kernel) (by decide +kernel)
set_option maxRecDepth 20000 in
theorem gX5_isGood_X3_at : GoodIn wsX5_isGood (wsV RX5 33 RX3 yX3_at wsX3_at) := goodIn_app (goodIn_of _ (by decide +kernel)) ggX5_isGood_X3_at
theorem dX5_isGood_0 : decode cX5_isGood 0 = .ok (.aload_n 0, 1) := by decide +kernel
theorem dX5_isGood_1 : decode cX5_isGood 1 = .ok (.getfield 23, 3) := by decide +kernel
theorem dX5_isGood_4 : decode cX5_isGood 4 = .ok (.iload_n 1, 1) := by decide +kernel
theorem dX5_isGood_5 : decode cX5_isGood 5 = .ok (.invokevirtual 33, 3) := by decide +kernel
theorem dX5_isGood_8 : decode cX5_isGood 8 = .ok (.iconst 1, 1) := by decide +kernel
theorem dX5_isGood_9 : decode cX5_isGood 9 = .ok (.if_icmp .ne 7, 3) := by decide +kernel
theorem dX5_isGood_12 : decode cX5_isGood 12 = .ok (.iconst 1, 1) := by decide +kernel
theorem dX5_isGood_13 : decode cX5_isGood 13 = .ok (.goto 4, 3) := by decide +kernel
theorem dX5_isGood_16 : decode cX5_isGood 16 = .ok (.iconst 0, 1) := by decide +kernel
theorem dX5_isGood_17 : decode cX5_isGood 17 = .ok (.ireturn, 1) := by decide +kernel
set_option maxRecDepth 20000 in
theorem ggX5_add_X3_put : GoodIn wsX5_add wsX3_put := goodIn_r _ [10, 11, 12, 13, 14, 9, 15, 24] (by decide +kernel) (by decide +kernel)
set_option maxRecDepth 20000 in
theorem gX5_add_X3_put : GoodIn wsX5_add (wsV RX5 37 RX3 yX3_put wsX3_put) := goodIn_app (goodIn_of _ (by decide +kernel)) ggX5_add_X3_put
set_option maxRecDepth 20000 in
theorem ggX5_add_X7_asNumber : GoodIn wsX5_add wsX7_asNumber := goodIn_r _ [18] (by decide +kernel) (by decide +kernel)
set_option maxRecDepth 20000 in
theorem gX5_add_X7_asNumber_n41 : GoodIn wsX5_add (wsX7_asNumber) := ggX5_add_X7_asNumber
theorem dX5_add_0 : decode cX5_add 0 = .ok (.aload_n 0, 1) := by decide +kernel
theorem dX5_add_1 : decode cX5_add 1 = .ok (.getfield 29, 3) := by decide +kernel
theorem dX5_add_4 : decode cX5_add 4 = .ok (.bipush 80, 2) := by decide +kernel
theorem dX5_add_6 : decode cX5_add 6 = .ok (.if_icmp .lt 4, 3) := by decide +kernel
theorem dX5_add_9 : decode cX5_add 9 = .ok (.return_, 1) := by decide +kernel
theorem dX5_add_10 : decode cX5_add 10 = .ok (.aload_n 0, 1) := by decide +kernel
theorem dX5_add_11 : decode cX5_add 11 = .ok (.getfield 14, 3) := by decide +kernel
theorem dX5_add_14 : decode cX5_add 14 = .ok (.aload_n 0, 1) := by decide +kernel
theorem dX5_add_15 : decode cX5_add 15 = .ok (.getfield 29, 3) := by decide +kernel
theorem dX5_add_18 : decode cX5_add 18 = .ok (.iload_n 1, 1) := by decide +kernel
theorem dX5_add_19 : decode cX5_add 19 = .ok (.invokevirtual 37, 3) := by decide +kernel
theorem dX5_add_22 : decode cX5_add 22 = .ok (.aload_n 0, 1) := by decide +kernel
theorem dX5_add_23 : decode cX5_add 23 = .ok (.getfield 20, 3) := by decide +kernel
theorem dX5_add_26 : decode cX5_add 26 = .ok (.aload_n 0, 1) := by decide +kernel
theorem dX5_add_27 : decode cX5_add 27 = .ok (.getfield 29, 3) := by decide +kernel
theorem dX5_add_30 : decode cX5_add 30 = .ok (.iload_n 2, 1) := by decide +kernel
theorem dX5_add_31 : decode cX5_add 31 = .ok (.invokevirtual 37, 3) := by decide +kernel
theorem dX5_add_34 : decode cX5_add 34 = .ok (.aload_n 0, 1) := by decide +kernel
theorem dX5_add_35 : decode cX5_add 35 = .ok (.getfield 23, 3) := by decide +kernel
theorem dX5_add_38 : decode cX5_add 38 = .ok (.aload_n 0, 1) := by decide +kernel
theorem dX5_add_39 : decode cX5_add 39 = .ok (.getfield 29, 3) := by decide +kernel
theorem dX5_add_42 : decode cX5_add 42 = .ok (.iload_n 3, 1) := by decide +kernel
theorem dX5_add_43 : decode cX5_add 43 = .ok (.invokestatic 41, 3) := by decide +kernel
theorem dX5_add_46 : decode cX5_add 46 = .ok (.invokevirtual 37, 3) := by decide +kernel
theorem dX5_add_49 : decode cX5_add 49 = .ok (.aload_n 0, 1) := by decide +kernel
theorem dX5_add_50 : decode cX5_add 50 = .ok (.getfield 26, 3) := by decide +kernel
theorem dX5_add_53 : decode cX5_add 53 = .ok (.aload_n 0, 1) := by decide +kernel
theorem dX5_add_54 : decode cX5_add 54 = .ok (.getfield 29, 3) := by decide +kernel
theorem dX5_add_57 : decode cX5_add 57 = .ok (.iload 4, 2) := by decide +kernel
theorem dX5_add_59 : decode cX5_add 59 = .ok (.invokevirtual 37, 3) := by decide +kernel
theorem dX5_add_62 : decode cX5_add 62 = .ok (.aload_n 0, 1) := by decide +kernel
theorem dX5_add_63 : decode cX5_add 63 = .ok (.dup, 1) := by decide +kernel
theorem dX5_add_64 : decode cX5_add 64 = .ok (.getfield 29, 3) := by decide +kernel
theorem dX5_add_67 : decode cX5_add 67 = .ok (.iconst 1, 1) := by decide +kernel
theorem dX5_add_68 : decode cX5_add 68 = .ok (.iadd, 1) := by decide +kernel
theorem dX5_add_69 : decode cX5_add 69 = .ok (.putfield 29, 3) := by decide +kernel
theorem dX5_add_72 : decode cX5_add 72 = .ok (.return_, 1) := by decide +kernel
set_option maxRecDepth 20000 in
theorem ggX5_removeAt_X5_has : GoodIn wsX5_removeAt wsX5_has := goodIn_r _ [10, 5, 25, 26, 27, 28, 29] (by decide +kernel) (by decide +kernel)
set_option maxRecDepth 20000 in
theorem gX5_removeAt_X5_has : GoodIn wsX5_removeAt (wsV RX5 45 RX5 yX5_has wsX5_has) := goodIn_app (goodIn_of _ (by decide +kernel)) ggX5_removeAt_X5_has
set_option maxRecDepth 20000 in
theorem ggX5_removeAt_X3_removeAt : GoodIn wsX5_removeAt wsX3_removeAt := goodIn_r _ [15, 16, 17, 18, 19, 20, 21, 22, 23, 14, 24, 30] (by decide +kernel) (by decide +kernel)
set_option maxRecDepth 20000 in
theorem gX5_removeAt_X3_removeAt : GoodIn wsX5_removeAt (wsV RX5 49 RX3 yX3_removeAt wsX3_removeAt) := goodIn_app (goodIn_of _ (by decide +kernel)) ggX5_removeAt_X3_removeAt
theorem dX5_removeAt_0 : decode cX5_removeAt 0 = .ok (.aload_n 0, 1) := by decide +kernel
theorem dX5_removeAt_1 : decode cX5_removeAt 1 = .ok (.iload_n 1, 1) := by decide +kernel
theorem dX5_removeAt_2 : decode cX5_removeAt 2 = .ok (.invokevirtual 45, 3) := by decide +kernel
theorem dX5_removeAt_5 : decode cX5_removeAt 5 = .ok (.ifCond .ne 4, 3) := by decide +kernel
theorem dX5_removeAt_8 : decode cX5_removeAt 8 = .ok (.return_, 1) := by decide +kernel
theorem dX5_removeAt_9 : decode cX5_removeAt 9 = .ok (.aload_n 0, 1) := by decide +kernel
theorem dX5_removeAt_10 : decode cX5_removeAt 10 = .ok (.getfield 14, 3) := by decide +kernel
theorem dX5_removeAt_13 : decode cX5_removeAt 13 = .ok (.iload_n 1, 1) := by decide +kernel
theorem dX5_removeAt_14 : decode cX5_removeAt 14 = .ok (.invokevirtual 49, 3) := by decide +kernel
theorem dX5_removeAt_17 : decode cX5_removeAt 17 = .ok (.aload_n 0, 1) := by decide +kernel
theorem dX5_removeAt_18 : decode cX5_removeAt 18 = .ok (.getfield 20, 3) := by decide +kernel
theorem dX5_removeAt_21 : decode cX5_removeAt 21 = .ok (.iload_n 1, 1) := by decide +kernel
theorem dX5_removeAt_22 : decode cX5_removeAt 22 = .ok (.invokevirtual 49, 3) := by decide +kernel
theorem dX5_removeAt_25 : decode cX5_removeAt 25 = .ok (.aload_n 0, 1) := by decide +kernel
theorem dX5_removeAt_26 : decode cX5_removeAt 26 = .ok (.getfield 23, 3) := by decide +kernel
theorem dX5_removeAt_29 : decode cX5_removeAt 29 = .ok (.iload_n 1, 1) := by decide +kernel
theorem dX5_removeAt_30 : decode cX5_removeAt 30 = .ok (.invokevirtual 49, 3) := by decide +kernel
theorem dX5_removeAt_33 : decode cX5_removeAt 33 = .ok (.aload_n 0, 1) := by decide +kernel
theorem dX5_removeAt_34 : decode cX5_removeAt 34 = .ok (.getfield 26, 3) := by decide +kernel
theorem dX5_removeAt_37 : decode cX5_removeAt 37 = .ok (.iload_n 1, 1) := by decide +kernel
theorem dX5_removeAt_38 : decode cX5_removeAt 38 = .ok (.invokevirtual 49, 3) := by decide +kernel
theorem dX5_removeAt_41 : decode cX5_removeAt 41 = .ok (.aload_n 0, 1) := by decide +kernel
theorem dX5_removeAt_42 : decode cX5_removeAt 42 = .ok (.dup, 1) := by decide +kernel
theorem dX5_removeAt_43 : decode cX5_removeAt 43 = .ok (.getfield 29, 3) := by decide +kernel
theorem dX5_removeAt_46 : decode cX5_removeAt 46 = .ok (.iconst 1, 1) := by decide +kernel
theorem dX5_removeAt_47 : decode cX5_removeAt 47 = .ok (.isub, 1) := by decide +kernel
theorem dX5_removeAt_48 : decode cX5_removeAt 48 = .ok (.putfield 29, 3) := by decide +kernel
theorem dX5_removeAt_51 : decode cX5_removeAt 51 = .ok (.return_, 1) := by decide +kernel
set_option maxRecDepth 20000 in
theorem ggX5_howManyShow_X3_at : GoodIn wsX5_howManyShow wsX3_at := goodIn_r _ [7, 8, 9, 10, 11, 6, 12, 18] (by decide +kernel) (by decide +kernel)
set_option maxRecDepth 20000 in
theorem gX5_howManyShow_X3_at : GoodIn wsX5_howManyShow (wsV RX5 33 RX3 yX3_at wsX3_at) := goodIn_app (goodIn_of _ (by decide +kernel)) ggX5_howManyShow_X3_at
theorem dX5_howManyShow_0 : decode cX5_howManyShow 0 = .ok (.iconst 0, 1) := by decide +kernel
theorem dX5_howManyShow_1 : decode cX5_howManyShow 1 = .ok (.istore_n 2, 1) := by decide +kernel
theorem dX5_howManyShow_2 : decode cX5_howManyShow 2 = .ok (.iconst 0, 1) := by decide +kernel
theorem dX5_howManyShow_3 : decode cX5_howManyShow 3 = .ok (.istore_n 3, 1) := by decide +kernel
theorem dX5_howManyShow_4 : decode cX5_howManyShow 4 = .ok (.iload_n 3, 1) := by decide +kernel
theorem dX5_howManyShow_5 : decode cX5_howManyShow 5 = .ok (.aload_n 0, 1) := by decide +kernel
theorem dX5_howManyShow_6 : decode cX5_howManyShow 6 = .ok (.getfield 29, 3) := by decide +kernel
theorem dX5_howManyShow_9 : decode cX5_howManyShow 9 = .ok (.if_icmp .ge 24, 3) := by decide +kernel
theorem dX5_howManyShow_12 : decode cX5_howManyShow 12 = .ok (.aload_n 0, 1) := by decide +kernel
theorem dX5_howManyShow_13 : decode cX5_howManyShow 13 = .ok (.getfield 14, 3) := by decide +kernel
theorem dX5_howManyShow_16 : decode cX5_howManyShow 16 = .ok (.iload_n 3, 1) := by decide +kernel
theorem dX5_howManyShow_17 : decode cX5_howManyShow 17 = .ok (.invokevirtual 33, 3) := by decide +kernel
theorem dX5_howManyShow_20 : decode cX5_howManyShow 20 = .ok (.iload_n 1, 1) := by decide +kernel
theorem dX5_howManyShow_21 : decode cX5_howManyShow 21 = .ok (.if_icmp .ne 6, 3) := by decide +kernel
theorem dX5_howManyShow_24 : decode cX5_howManyShow 24 = .ok (.iinc 2 1, 3) := by decide +kernel
theorem dX5_howManyShow_27 : decode cX5_howManyShow 27 = .ok (.iinc 3 1, 3) := by decide +kernel
theorem dX5_howManyShow_30 : decode cX5_howManyShow 30 = .ok (.goto (-26), 3) := by decide +kernel
theorem dX5_howManyShow_33 : decode cX5_howManyShow 33 = .ok (.iload_n 2, 1) := by decide +kernel
theorem dX5_howManyShow_34 : decode cX5_howManyShow 34 = .ok (.ireturn, 1) := by decide +kernel
set_option maxRecDepth 20000 in
theorem ggX5_copyFrom_X3_copyFrom : GoodIn wsX5_copyFrom wsX3_copyFrom := goodIn_r _ [10, 11, 12, 13, 14, 15, 16, 17, 18, 19, 25] (by decide +kernel) (by decide +kernel)
set_option maxRecDepth 20000 in
theorem gX5_copyFrom_X3_copyFrom : GoodIn wsX5_copyFrom (wsV RX5 52 RX3 yX3_copyFrom wsX3_copyFrom) := goodIn_app (goodIn_of _ (by decide +kernel)) ggX5_copyFrom_X3_copyFrom
theorem dX5_copyFrom_0 : decode cX5_copyFrom 0 = .ok (.aload_n 0, 1) := by decide +kernel
theorem dX5_copyFrom_1 : decode cX5_copyFrom 1 = .ok (.getfield 14, 3) := by decide +kernel
theorem dX5_copyFrom_4 : decode cX5_copyFrom 4 = .ok (.aload_n 1, 1) := by decide +kernel
theorem dX5_copyFrom_5 : decode cX5_copyFrom 5 = .ok (.getfield 14, 3) := by decide +kernel
theorem dX5_copyFrom_8 : decode cX5_copyFrom 8 = .ok (.invokevirtual 52, 3) := by decide +kernel
theorem dX5_copyFrom_11 : decode cX5_copyFrom 11 = .ok (.aload_n 0, 1) := by decide +kernel
theorem dX5_copyFrom_12 : decode cX5_copyFrom 12 = .ok (.getfield 20, 3) := by decide +kernel
theorem dX5_copyFrom_15 : decode cX5_copyFrom 15 = .ok (.aload_n 1, 1) := by decide +kernel
theorem dX5_copyFrom_16 : decode cX5_copyFrom 16 = .ok (.getfield 20, 3) := by decide +kernel
theorem dX5_copyFrom_19 : decode cX5_copyFrom 19 = .ok (.invokevirtual 52, 3) := by decide +kernel
theorem dX5_copyFrom_22 : decode cX5_copyFrom 22 = .ok (.aload_n 0, 1) := by decide +kernel
theorem dX5_copyFrom_23 : decode cX5_copyFrom 23 = .ok (.getfield 23, 3) := by decide +kernel
theorem dX5_copyFrom_26 : decode cX5_copyFrom 26 = .ok (.aload_n 1, 1) := by decide +kernel
theorem dX5_copyFrom_27 : decode cX5_copyFrom 27 = .ok (.getfield 23, 3) := by decide +kernel
theorem dX5_copyFrom_30 : decode cX5_copyFrom 30 = .ok (.invokevirtual 52, 3) := by decide +kernel
theorem dX5_copyFrom_33 : decode cX5_copyFrom 33 = .ok (.aload_n 0, 1) := by decide +kernel
theorem dX5_copyFrom_34 : decode cX5_copyFrom 34 = .ok (.getfield 26, 3) := by decide +kernel
theorem dX5_copyFrom_37 : decode cX5_copyFrom 37 = .ok (.aload_n 1, 1) := by decide +kernel
theorem dX5_copyFrom_38 : decode cX5_copyFrom 38 = .ok (.getfield 26, 3) := by decide +kernel
theorem dX5_copyFrom_41 : decode cX5_copyFrom 41 = .ok (.invokevirtual 52, 3) := by decide +kernel
theorem dX5_copyFrom_44 : decode cX5_copyFrom 44 = .ok (.aload_n 0, 1) := by decide +kernel
theorem dX5_copyFrom_45 : decode cX5_copyFrom 45 = .ok (.aload_n 1, 1) := by decide +kernel
theorem dX5_copyFrom_46 : decode cX5_copyFrom 46 = .ok (.getfield 29, 3) := by decide +kernel
theorem dX5_copyFrom_49 : decode cX5_copyFrom 49 = .ok (.putfield 29, 3) := by decide +kernel
theorem dX5_copyFrom_52 : decode cX5_copyFrom 52 = .ok (.return_, 1) := by decide +kernel
set_option maxRecDepth 20000 in
theorem ggX6_init_X0_init : GoodIn wsX6_init wsX0_init := goodIn_r _ [19, 20, 2, 3, 21, 13, 14, 22, 23, 24, 25, 26, 27, 28, 29, 30, 31, 32, 33, 34, 35, 75, 56, 57, 58, 59] (by decide +kernel) (by decide +kernel)
set_option maxRecDepth 20000 in
theorem gX6_init_X0_init : GoodIn wsX6_init (wsX0_init) := ggX6_init_X0_init
set_option maxRecDepth 20000 in
theorem ggX6_init_X5_init : GoodIn wsX6_init wsX5_init := goodIn_r _ [38, 39, 2, 3, 40, 13, 14, 41, 42, 43, 44, 45, 46, 27, 28, 29, 30, 31, 32, 33, 34, 35, 75, 70, 71, 72, 73, 74] (by decide +kernel) (by decide +kernel)
set_option maxRecDepth 20000 in
theorem gX6_init_X5_init : GoodIn wsX6_init (wsX5_init) := ggX6_init_X5_init
set_option maxRecDepth 20000 in
theorem ggX6_init_X3_init : GoodIn wsX6_init wsX3_init := goodIn_r _ [28, 29, 2, 3, 30, 31, 32, 33, 34, 35, 75] (by decide +kernel) (by decide +kernel)
set_option maxRecDepth 20000 in
theorem gX6_init_X3_init : GoodIn wsX6_init (wsX3_init) := ggX6_init_X3_init
set_option maxRecDepth 20000 in
theorem ggX6_init_X3_put : GoodIn wsX6_init wsX3_put := goodIn_r _ [51, 35, 52, 53, 54, 14, 55, 75] (by decide +kernel) (by decide +kernel)
set_option maxRecDepth 20000 in
theorem gX6_init_X3_put : GoodIn wsX6_init (wsV RX6 38 RX3 yX3_put wsX3_put) := goodIn_app (goodIn_of _ (by decide +kernel)) ggX6_init_X3_put
theorem dX6_init_0 : decode cX6_init 0 = .ok (.aload_n 0, 1) := by decide +kernel
theorem dX6_init_1 : decode cX6_init 1 = .ok (.invokespecial 3, 3) := by decide +kernel
theorem dX6_init_4 : decode cX6_init 4 = .ok (.aload_n 0, 1) := by decide +kernel
theorem dX6_init_5 : decode cX6_init 5 = .ok (.new 9, 3) := by decide +kernel
theorem dX6_init_8 : decode cX6_init 8 = .ok (.dup, 1) := by decide +kernel
theorem dX6_init_9 : decode cX6_init 9 = .ok (.invokespecial 11, 3) := by decide +kernel
theorem dX6_init_12 : decode cX6_init 12 = .ok (.putfield 12, 3) := by decide +kernel
theorem dX6_init_15 : decode cX6_init 15 = .ok (.aload_n 0, 1) := by decide +kernel
theorem dX6_init_16 : decode cX6_init 16 = .ok (.new 18, 3) := by decide +kernel
theorem dX6_init_19 : decode cX6_init 19 = .ok (.dup, 1) := by decide +kernel
theorem dX6_init_20 : decode cX6_init 20 = .ok (.invokespecial 20, 3) := by decide +kernel
theorem dX6_init_23 : decode cX6_init 23 = .ok (.putfield 21, 3) := by decide +kernel
theorem dX6_init_26 : decode cX6_init 26 = .ok (.aload_n 0, 1) := by decide +kernel
theorem dX6_init_27 : decode cX6_init 27 = .ok (.new 25, 3) := by decide +kernel
theorem dX6_init_30 : decode cX6_init 30 = .ok (.dup, 1) := by decide +kernel
theorem dX6_init_31 : decode cX6_init 31 = .ok (.getstatic 27, 3) := by decide +kernel
theorem dX6_init_34 : decode cX6_init 34 = .ok (.arraylength, 1) := by decide +kernel
theorem dX6_init_35 : decode cX6_init 35 = .ok (.invokespecial 31, 3) := by decide +kernel
theorem dX6_init_38 : decode cX6_init 38 = .ok (.putfield 34, 3) := by decide +kernel
theorem dX6_init_41 : decode cX6_init 41 = .ok (.iconst 0, 1) := by decide +kernel
theorem dX6_init_42 : decode cX6_init 42 = .ok (.istore_n 1, 1) := by decide +kernel
theorem dX6_init_43 : decode cX6_init 43 = .ok (.iload_n 1, 1) := by decide +kernel
theorem dX6_init_44 : decode cX6_init 44 = .ok (.getstatic 27, 3) := by decide +kernel
theorem dX6_init_47 : decode cX6_init 47 = .ok (.arraylength, 1) := by decide +kernel
theorem dX6_init_48 : decode cX6_init 48 = .ok (.if_icmp .ge 22, 3) := by decide +kernel
theorem dX6_init_51 : decode cX6_init 51 = .ok (.aload_n 0, 1) := by decide +kernel
theorem dX6_init_52 : decode cX6_init 52 = .ok (.getfield 34, 3) := by decide +kernel
theorem dX6_init_55 : decode cX6_init 55 = .ok (.iload_n 1, 1) := by decide +kernel
theorem dX6_init_56 : decode cX6_init 56 = .ok (.getstatic 27, 3) := by decide +kernel
theorem dX6_init_59 : decode cX6_init 59 = .ok (.iload_n 1, 1) := by decide +kernel
theorem dX6_init_60 : decode cX6_init 60 = .ok (.iaload, 1) := by decide +kernel
theorem dX6_init_61 : decode cX6_init 61 = .ok (.invokevirtual 38, 3) := by decide +kernel
theorem dX6_init_64 : decode cX6_init 64 = .ok (.iinc 1 1, 3) := by decide +kernel
theorem dX6_init_67 : decode cX6_init 67 = .ok (.goto (-24), 3) := by decide +kernel
theorem dX6_init_70 : decode cX6_init 70 = .ok (.aload_n 0, 1) := by decide +kernel
theorem dX6_init_71 : decode cX6_init 71 = .ok (.bipush 6, 2) := by decide +kernel
theorem dX6_init_73 : decode cX6_init 73 = .ok (.putfield 42, 3) := by decide +kernel
theorem dX6_init_76 : decode cX6_init 76 = .ok (.return_, 1) := by decide +kernel
set_option maxRecDepth 20000 in
theorem ggX6_copyFrom_X0_copyFrom : GoodIn wsX6_copyFrom wsX0_copyFrom := goodIn_r _ [15, 16, 17, 18, 19, 20, 21, 22, 23, 24, 25, 26, 27, 28, 29, 30, 31, 32, 33, 56, 57, 58, 59, 60] (by decide +kernel) (by decide +kernel)
set_option maxRecDepth 20000 in
theorem gX6_copyFrom_X0_copyFrom : GoodIn wsX6_copyFrom (wsV RX6 46 RX0 yX0_copyFrom wsX0_copyFrom) := goodIn_app (goodIn_of _ (by decide +kernel)) ggX6_copyFrom_X0_copyFrom
set_option maxRecDepth 20000 in
theorem ggX6_copyFrom_X5_copyFrom : GoodIn wsX6_copyFrom wsX5_copyFrom := goodIn_r _ [38, 39, 40, 41, 42, 43, 44, 21, 22, 23, 24, 25, 26, 27, 28, 29, 30, 31, 32, 33, 61, 62, 63, 64, 65, 60] (by decide +kernel) (by decide +kernel)
set_option maxRecDepth 20000 in
theorem gX6_copyFrom_X5_copyFrom : GoodIn wsX6_copyFrom (wsV RX6 50 RX5 yX5_copyFrom wsX5_copyFrom) := goodIn_app (goodIn_of _ (by decide +kernel)) ggX6_copyFrom_X5_copyFrom
set_option maxRecDepth 20000 in
theorem ggX6_copyFrom_X3_copyFrom : GoodIn wsX6_copyFrom wsX3_copyFrom := goodIn_r _ [24, 25, 26, 27, 28, 29, 30, 31, 32, 33, 60] (by decide +kernel) (by decide +kernel)
set_option maxRecDepth 20000 in
theorem gX6_copyFrom_X3_copyFrom : GoodIn wsX6_copyFrom (wsV RX6 53 RX3 yX3_copyFrom wsX3_copyFrom) := goodIn_app (goodIn_of _ (by decide +kernel)) ggX6_copyFrom_X3_copyFrom
theorem dX6_copyFrom_0 : decode cX6_copyFrom 0 = .ok (.aload_n 0, 1) := by decide +kernel
theorem dX6_copyFrom_1 : decode cX6_copyFrom 1 = .ok (.getfield 12, 3) := by decide +kernel
theorem dX6_copyFrom_4 : decode cX6_copyFrom 4 = .ok (.aload_n 1, 1) := by decide +kernel
theorem dX6_copyFrom_5 : decode cX6_copyFrom 5 = .ok (.getfield 12, 3) := by decide +kernel
theorem dX6_copyFrom_8 : decode cX6_copyFrom 8 = .ok (.invokevirtual 46, 3) := by decide +kernel
theorem dX6_copyFrom_11 : decode cX6_copyFrom 11 = .ok (.aload_n 0, 1) := by decide +kernel
theorem dX6_copyFrom_12 : decode cX6_copyFrom 12 = .ok (.getfield 21, 3) := by decide +kernel
theorem dX6_copyFrom_15 : decode cX6_copyFrom 15 = .ok (.aload_n 1, 1) := by decide +kernel
theorem dX6_copyFrom_16 : decode cX6_copyFrom 16 = .ok (.getfield 21, 3) := by decide +kernel
theorem dX6_copyFrom_19 : decode cX6_copyFrom 19 = .ok (.invokevirtual 50, 3) := by decide +kernel
theorem dX6_copyFrom_22 : decode cX6_copyFrom 22 = .ok (.aload_n 0, 1) := by decide +kernel
theorem dX6_copyFrom_23 : decode cX6_copyFrom 23 = .ok (.getfield 34, 3) := by decide +kernel
theorem dX6_copyFrom_26 : decode cX6_copyFrom 26 = .ok (.aload_n 1, 1) := by decide +kernel
theorem dX6_copyFrom_27 : decode cX6_copyFrom 27 = .ok (.getfield 34, 3) := by decide +kernel
theorem dX6_copyFrom_30 : decode cX6_copyFrom 30 = .ok (.invokevirtual 53, 3) := by decide +kernel
theorem dX6_copyFrom_33 : decode cX6_copyFrom 33 = .ok (.aload_n 0, 1) := by decide +kernel
theorem dX6_copyFrom_34 : decode cX6_copyFrom 34 = .ok (.aload_n 1, 1) := by decide +kernel
theorem dX6_copyFrom_35 : decode cX6_copyFrom 35 = .ok (.getfield 56, 3) := by decide +kernel
theorem dX6_copyFrom_38 : decode cX6_copyFrom 38 = .ok (.putfield 56, 3) := by decide +kernel
theorem dX6_copyFrom_41 : decode cX6_copyFrom 41 = .ok (.aload_n 0, 1) := by decide +kernel
theorem dX6_copyFrom_42 : decode cX6_copyFrom 42 = .ok (.aload_n 1, 1) := by decide +kernel
theorem dX6_copyFrom_43 : decode cX6_copyFrom 43 = .ok (.getfield 42, 3) := by decide +kernel
theorem dX6_copyFrom_46 : decode cX6_copyFrom 46 = .ok (.putfield 42, 3) := by decide +kernel
theorem dX6_copyFrom_49 : decode cX6_copyFrom 49 = .ok (.aload_n 0, 1) := by decide +kernel
theorem dX6_copyFrom_50 : decode cX6_copyFrom 50 = .ok (.aload_n 1, 1) := by decide +kernel
theorem dX6_copyFrom_51 : decode cX6_copyFrom 51 = .ok (.getfield 59, 3) := by decide +kernel
theorem dX6_copyFrom_54 : decode cX6_copyFrom 54 = .ok (.putfield 59, 3) := by decide +kernel
theorem dX6_copyFrom_57 : decode cX6_copyFrom 57 = .ok (.aload_n 0, 1) := by decide +kernel
theorem dX6_copyFrom_58 : decode cX6_copyFrom 58 = .ok (.aload_n 1, 1) := by decide +kernel
theorem dX6_copyFrom_59 : decode cX6_copyFrom 59 = .ok (.getfield 62, 3) := by decide +kernel
theorem dX6_copyFrom_62 : decode cX6_copyFrom 62 = .ok (.putfield 62, 3) := by decide +kernel
theorem dX6_copyFrom_65 : decode cX6_copyFrom 65 = .ok (.aload_n 0, 1) := by decide +kernel
theorem dX6_copyFrom_66 : decode cX6_copyFrom 66 = .ok (.aload_n 1, 1) := by decide +kernel
theorem dX6_copyFrom_67 : decode cX6_copyFrom 67 = .ok (.getfield 65, 3) := by decide +kernel
theorem dX6_copyFrom_70 : decode cX6_copyFrom 70 = .ok (.putfield 65, 3) := by decide +kernel
theorem dX6_copyFrom_73 : decode cX6_copyFrom 73 = .ok (.aload_n 0, 1) := by decide +kernel
theorem dX6_copyFrom_74 : decode cX6_copyFrom 74 = .ok (.aload_n 1, 1) := by decide +kernel
theorem dX6_copyFrom_75 : decode cX6_copyFrom 75 = .ok (.getfield 68, 3) := by decide +kernel
theorem dX6_copyFrom_78 : decode cX6_copyFrom 78 = .ok (.putfield 68, 3) := by decide +kernel
theorem dX6_copyFrom_81 : decode cX6_copyFrom 81 = .ok (.aload_n 0, 1) := by decide +kernel
theorem dX6_copyFrom_82 : decode cX6_copyFrom 82 = .ok (.aload_n 1, 1) := by decide +kernel
theorem dX6_copyFrom_83 : decode cX6_copyFrom 83 = .ok (.getfield 71, 3) := by decide +kernel
theorem dX6_copyFrom_86 : decode cX6_copyFrom 86 = .ok (.putfield 71, 3) := by decide +kernel
theorem dX6_copyFrom_89 : decode cX6_copyFrom 89 = .ok (.return_, 1) := by decide +kernel
theorem dX6_clearForBook_0 : decode cX6_clearForBook 0 = .ok (.aload_n 0, 1) := by decide +kernel
theorem dX6_clearForBook_1 : decode cX6_clearForBook 1 = .ok (.getfield 21, 3) := by decide +kernel
theorem dX6_clearForBook_4 : decode cX6_clearForBook 4 = .ok (.iconst 0, 1) := by decide +kernel
theorem dX6_clearForBook_5 : decode cX6_clearForBook 5 = .ok (.putfield 74, 3) := by decide +kernel
theorem dX6_clearForBook_8 : decode cX6_clearForBook 8 = .ok (.aload_n 0, 1) := by decide +kernel
theorem dX6_clearForBook_9 : decode cX6_clearForBook 9 = .ok (.iconst 0, 1) := by decide +kernel
theorem dX6_clearForBook_10 : decode cX6_clearForBook 10 = .ok (.putfield 56, 3) := by decide +kernel
theorem dX6_clearForBook_13 : decode cX6_clearForBook 13 = .ok (.aload_n 0, 1) := by decide +kernel
theorem dX6_clearForBook_14 : decode cX6_clearForBook 14 = .ok (.iconst 0, 1) := by decide +kernel
theorem dX6_clearForBook_15 : decode cX6_clearForBook 15 = .ok (.putfield 59, 3) := by decide +kernel
theorem dX6_clearForBook_18 : decode cX6_clearForBook 18 = .ok (.aload_n 0, 1) := by decide +kernel
theorem dX6_clearForBook_19 : decode cX6_clearForBook 19 = .ok (.iconst 0, 1) := by decide +kernel
theorem dX6_clearForBook_20 : decode cX6_clearForBook 20 = .ok (.putfield 62, 3) := by decide +kernel
theorem dX6_clearForBook_23 : decode cX6_clearForBook 23 = .ok (.aload_n 0, 1) := by decide +kernel
theorem dX6_clearForBook_24 : decode cX6_clearForBook 24 = .ok (.iconst 0, 1) := by decide +kernel
theorem dX6_clearForBook_25 : decode cX6_clearForBook 25 = .ok (.putfield 65, 3) := by decide +kernel
theorem dX6_clearForBook_28 : decode cX6_clearForBook 28 = .ok (.aload_n 0, 1) := by decide +kernel
theorem dX6_clearForBook_29 : decode cX6_clearForBook 29 = .ok (.iconst 0, 1) := by decide +kernel
theorem dX6_clearForBook_30 : decode cX6_clearForBook 30 = .ok (.putfield 68, 3) := by decide +kernel
theorem dX6_clearForBook_33 : decode cX6_clearForBook 33 = .ok (.aload_n 0, 1) := by decide +kernel
theorem dX6_clearForBook_34 : decode cX6_clearForBook 34 = .ok (.iconst 0, 1) := by decide +kernel
theorem dX6_clearForBook_35 : decode cX6_clearForBook 35 = .ok (.putfield 71, 3) := by decide +kernel
theorem dX6_clearForBook_38 : decode cX6_clearForBook 38 = .ok (.return_, 1) := by decide +kernel
theorem dX6_hasBook_0 : decode cX6_hasBook 0 = .ok (.aload_n 0, 1) := by decide +kernel
theorem dX6_hasBook_1 : decode cX6_hasBook 1 = .ok (.getfield 12, 3) := by decide +kernel
theorem dX6_hasBook_4 : decode cX6_hasBook 4 = .ok (.getfield 77, 3) := by decide +kernel
theorem dX6_hasBook_7 : decode cX6_hasBook 7 = .ok (.ifCond .le 7, 3) := by decide +kernel
theorem dX6_hasBook_10 : decode cX6_hasBook 10 = .ok (.iconst 1, 1) := by decide +kernel
theorem dX6_hasBook_11 : decode cX6_hasBook 11 = .ok (.goto 4, 3) := by decide +kernel
theorem dX6_hasBook_14 : decode cX6_hasBook 14 = .ok (.iconst 0, 1) := by decide +kernel
theorem dX6_hasBook_15 : decode cX6_hasBook 15 = .ok (.ireturn, 1) := by decide +kernel
theorem dX6_leavesOnRight_0 : decode cX6_leavesOnRight 0 = .ok (.aload_n 0, 1) := by decide +kernel
theorem dX6_leavesOnRight_1 : decode cX6_leavesOnRight 1 = .ok (.getfield 12, 3) := by decide +kernel
theorem dX6_leavesOnRight_4 : decode cX6_leavesOnRight 4 = .ok (.getfield 77, 3) := by decide +kernel
theorem dX6_leavesOnRight_7 : decode cX6_leavesOnRight 7 = .ok (.aload_n 0, 1) := by decide +kernel
theorem dX6_leavesOnRight_8 : decode cX6_leavesOnRight 8 = .ok (.getfield 56, 3) := by decide +kernel
theorem dX6_leavesOnRight_11 : decode cX6_leavesOnRight 11 = .ok (.isub, 1) := by decide +kernel
theorem dX6_leavesOnRight_12 : decode cX6_leavesOnRight 12 = .ok (.ireturn, 1) := by decide +kernel
theorem dX6_openOnLeft_0 : decode cX6_openOnLeft 0 = .ok (.aload_n 0, 1) := by decide +kernel
theorem dX6_openOnLeft_1 : decode cX6_openOnLeft 1 = .ok (.getfield 56, 3) := by decide +kernel
theorem dX6_openOnLeft_4 : decode cX6_openOnLeft 4 = .ok (.ifCond .le 14, 3) := by decide +kernel
theorem dX6_openOnLeft_7 : decode cX6_openOnLeft 7 = .ok (.iconst 2, 1) := by decide +kernel
theorem dX6_openOnLeft_8 : decode cX6_openOnLeft 8 = .ok (.aload_n 0, 1) := by decide +kernel
theorem dX6_openOnLeft_9 : decode cX6_openOnLeft 9 = .ok (.getfield 56, 3) := by decide +kernel
theorem dX6_openOnLeft_12 : decode cX6_openOnLeft 12 = .ok (.imul, 1) := by decide +kernel
theorem dX6_openOnLeft_13 : decode cX6_openOnLeft 13 = .ok (.iconst 1, 1) := by decide +kernel
theorem dX6_openOnLeft_14 : decode cX6_openOnLeft 14 = .ok (.isub, 1) := by decide +kernel
theorem dX6_openOnLeft_15 : decode cX6_openOnLeft 15 = .ok (.goto 5, 3) := by decide +kernel
theorem dX6_openOnLeft_18 : decode cX6_openOnLeft 18 = .ok (.bipush (-5), 2) := by decide +kernel
theorem dX6_openOnLeft_20 : decode cX6_openOnLeft 20 = .ok (.ireturn, 1) := by decide +kernel
set_option maxRecDepth 20000 in
theorem ggX6_openOnRight_X6_leavesOnRight : GoodIn wsX6_openOnRight wsX6_leavesOnRight := goodIn_r _ [6, 7, 1, 8, 9, 10, 11, 12, 13, 14, 15, 16, 17, 18, 19, 20, 21] (by decide +kernel) (by decide +kernel)
set_option maxRecDepth 20000 in
theorem gX6_openOnRight_X6_leavesOnRight : GoodIn wsX6_openOnRight (wsV RX6 80 RX6 yX6_leavesOnRight wsX6_leavesOnRight) := goodIn_app (goodIn_of _ (by decide +kernel)) ggX6_openOnRight_X6_leavesOnRight
theorem dX6_openOnRight_0 : decode cX6_openOnRight 0 = .ok (.aload_n 0, 1) := by decide +kernel
theorem dX6_openOnRight_1 : decode cX6_openOnRight 1 = .ok (.invokevirtual 80, 3) := by decide +kernel
theorem dX6_openOnRight_4 : decode cX6_openOnRight 4 = .ok (.ifCond .le 12, 3) := by decide +kernel
theorem dX6_openOnRight_7 : decode cX6_openOnRight 7 = .ok (.iconst 2, 1) := by decide +kernel
theorem dX6_openOnRight_8 : decode cX6_openOnRight 8 = .ok (.aload_n 0, 1) := by decide +kernel
theorem dX6_openOnRight_9 : decode cX6_openOnRight 9 = .ok (.getfield 56, 3) := by decide +kernel
theorem dX6_openOnRight_12 : decode cX6_openOnRight 12 = .ok (.imul, 1) := by decide +kernel
theorem dX6_openOnRight_13 : decode cX6_openOnRight 13 = .ok (.goto 5, 3) := by decide +kernel
theorem dX6_openOnRight_16 : decode cX6_openOnRight 16 = .ok (.bipush (-5), 2) := by decide +kernel
theorem dX6_openOnRight_18 : decode cX6_openOnRight 18 = .ok (.ireturn, 1) := by decide +kernel
set_option maxRecDepth 20000 in
theorem ggX6_liftedBy_X3_at : GoodIn wsX6_liftedBy wsX3_at := goodIn_r _ [7, 8, 9, 10, 11, 6, 12, 27] (by decide +kernel) (by decide +kernel)
set_option maxRecDepth 20000 in
theorem gX6_liftedBy_X3_at : GoodIn wsX6_liftedBy (wsV RX6 87 RX3 yX3_at wsX3_at) := goodIn_app (goodIn_of _ (by decide +kernel)) ggX6_liftedBy_X3_at
theorem dX6_liftedBy_0 : decode cX6_liftedBy 0 = .ok (.iconst 0, 1) := by decide +kernel
theorem dX6_liftedBy_1 : decode cX6_liftedBy 1 = .ok (.istore_n 2, 1) := by decide +kernel
theorem dX6_liftedBy_2 : decode cX6_liftedBy 2 = .ok (.iconst 0, 1) := by decide +kernel
theorem dX6_liftedBy_3 : decode cX6_liftedBy 3 = .ok (.istore_n 3, 1) := by decide +kernel
theorem dX6_liftedBy_4 : decode cX6_liftedBy 4 = .ok (.aload_n 0, 1) := by decide +kernel
theorem dX6_liftedBy_5 : decode cX6_liftedBy 5 = .ok (.getfield 56, 3) := by decide +kernel
theorem dX6_liftedBy_8 : decode cX6_liftedBy 8 = .ok (.istore 4, 2) := by decide +kernel
theorem dX6_liftedBy_10 : decode cX6_liftedBy 10 = .ok (.iload 4, 2) := by decide +kernel
theorem dX6_liftedBy_12 : decode cX6_liftedBy 12 = .ok (.aload_n 0, 1) := by decide +kernel
theorem dX6_liftedBy_13 : decode cX6_liftedBy 13 = .ok (.getfield 12, 3) := by decide +kernel
theorem dX6_liftedBy_16 : decode cX6_liftedBy 16 = .ok (.getfield 77, 3) := by decide +kernel
theorem dX6_liftedBy_19 : decode cX6_liftedBy 19 = .ok (.if_icmp .ge 65, 3) := by decide +kernel
theorem dX6_liftedBy_22 : decode cX6_liftedBy 22 = .ok (.iload_n 3, 1) := by decide +kernel
theorem dX6_liftedBy_23 : decode cX6_liftedBy 23 = .ok (.aload_n 0, 1) := by decide +kernel
theorem dX6_liftedBy_24 : decode cX6_liftedBy 24 = .ok (.getfield 12, 3) := by decide +kernel
theorem dX6_liftedBy_27 : decode cX6_liftedBy 27 = .ok (.getfield 84, 3) := by decide +kernel
theorem dX6_liftedBy_30 : decode cX6_liftedBy 30 = .ok (.iload 4, 2) := by decide +kernel
theorem dX6_liftedBy_32 : decode cX6_liftedBy 32 = .ok (.invokevirtual 87, 3) := by decide +kernel
theorem dX6_liftedBy_35 : decode cX6_liftedBy 35 = .ok (.iadd, 1) := by decide +kernel
theorem dX6_liftedBy_36 : decode cX6_liftedBy 36 = .ok (.istore 5, 2) := by decide +kernel
theorem dX6_liftedBy_38 : decode cX6_liftedBy 38 = .ok (.iload_n 1, 1) := by decide +kernel
theorem dX6_liftedBy_39 : decode cX6_liftedBy 39 = .ok (.iload 5, 2) := by decide +kernel
theorem dX6_liftedBy_41 : decode cX6_liftedBy 41 = .ok (.if_icmp .ge 5, 3) := by decide +kernel
theorem dX6_liftedBy_44 : decode cX6_liftedBy 44 = .ok (.iload_n 2, 1) := by decide +kernel
theorem dX6_liftedBy_45 : decode cX6_liftedBy 45 = .ok (.ireturn, 1) := by decide +kernel
theorem dX6_liftedBy_46 : decode cX6_liftedBy 46 = .ok (.iload_n 2, 1) := by decide +kernel
theorem dX6_liftedBy_47 : decode cX6_liftedBy 47 = .ok (.ifCond .le 25, 3) := by decide +kernel
theorem dX6_liftedBy_50 : decode cX6_liftedBy 50 = .ok (.iload_n 1, 1) := by decide +kernel
theorem dX6_liftedBy_51 : decode cX6_liftedBy 51 = .ok (.iload_n 3, 1) := by decide +kernel
theorem dX6_liftedBy_52 : decode cX6_liftedBy 52 = .ok (.isub, 1) := by decide +kernel
theorem dX6_liftedBy_53 : decode cX6_liftedBy 53 = .ok (.aload_n 0, 1) := by decide +kernel
theorem dX6_liftedBy_54 : decode cX6_liftedBy 54 = .ok (.getfield 12, 3) := by decide +kernel
theorem dX6_liftedBy_57 : decode cX6_liftedBy 57 = .ok (.getfield 91, 3) := by decide +kernel
theorem dX6_liftedBy_60 : decode cX6_liftedBy 60 = .ok (.iload 4, 2) := by decide +kernel
theorem dX6_liftedBy_62 : decode cX6_liftedBy 62 = .ok (.iconst 1, 1) := by decide +kernel
theorem dX6_liftedBy_63 : decode cX6_liftedBy 63 = .ok (.isub, 1) := by decide +kernel
theorem dX6_liftedBy_64 : decode cX6_liftedBy 64 = .ok (.invokevirtual 87, 3) := by decide +kernel
theorem dX6_liftedBy_67 : decode cX6_liftedBy 67 = .ok (.if_icmp .lt 5, 3) := by decide +kernel
theorem dX6_liftedBy_70 : decode cX6_liftedBy 70 = .ok (.iload_n 2, 1) := by decide +kernel
theorem dX6_liftedBy_71 : decode cX6_liftedBy 71 = .ok (.ireturn, 1) := by decide +kernel
theorem dX6_liftedBy_72 : decode cX6_liftedBy 72 = .ok (.iload 5, 2) := by decide +kernel
theorem dX6_liftedBy_74 : decode cX6_liftedBy 74 = .ok (.istore_n 3, 1) := by decide +kernel
theorem dX6_liftedBy_75 : decode cX6_liftedBy 75 = .ok (.iinc 2 1, 3) := by decide +kernel
theorem dX6_liftedBy_78 : decode cX6_liftedBy 78 = .ok (.iinc 4 1, 3) := by decide +kernel
theorem dX6_liftedBy_81 : decode cX6_liftedBy 81 = .ok (.goto (-71), 3) := by decide +kernel
theorem dX6_liftedBy_84 : decode cX6_liftedBy 84 = .ok (.iload_n 2, 1) := by decide +kernel
theorem dX6_liftedBy_85 : decode cX6_liftedBy 85 = .ok (.ireturn, 1) := by decide +kernel
set_option maxRecDepth 20000 in
theorem ggX6_turnOnce_X6_liftedBy : GoodIn wsX6_turnOnce wsX6_liftedBy := goodIn_r _ [10, 2, 11, 12, 13, 14, 15, 16, 17, 18, 19, 20, 21, 35, 36, 37, 38, 39, 40, 41, 42, 43, 44, 45, 46, 47, 48, 49] (by decide +kernel) (by decide +kernel)
set_option maxRecDepth 20000 in
theorem gX6_turnOnce_X6_liftedBy : GoodIn wsX6_turnOnce (wsV RX6 94 RX6 yX6_liftedBy wsX6_liftedBy) := goodIn_app (goodIn_of _ (by decide +kernel)) ggX6_turnOnce_X6_liftedBy
set_option maxRecDepth 20000 in
theorem ggX6_turnOnce_X6_learnFrom : GoodIn wsX6_turnOnce wsX6_learnFrom := goodIn_r _ [25, 26, 27, 1, 28, 29, 30, 31, 32, 33, 34, 12, 13, 14, 15, 16, 17, 18, 19, 20, 21, 35, 36, 37, 38, 39, 40, 41, 42, 43, 44, 49] (by decide +kernel) (by decide +kernel)
set_option maxRecDepth 20000 in
theorem gX6_turnOnce_X6_learnFrom : GoodIn wsX6_turnOnce (wsV RX6 97 RX6 yX6_learnFrom wsX6_learnFrom) := goodIn_app (goodIn_of _ (by decide +kernel)) ggX6_turnOnce_X6_learnFrom
theorem dX6_turnOnce_0 : decode cX6_turnOnce 0 = .ok (.aload_n 0, 1) := by decide +kernel
theorem dX6_turnOnce_1 : decode cX6_turnOnce 1 = .ok (.aload_n 0, 1) := by decide +kernel
theorem dX6_turnOnce_2 : decode cX6_turnOnce 2 = .ok (.getfield 42, 3) := by decide +kernel
theorem dX6_turnOnce_5 : decode cX6_turnOnce 5 = .ok (.invokevirtual 94, 3) := by decide +kernel
theorem dX6_turnOnce_8 : decode cX6_turnOnce 8 = .ok (.istore_n 1, 1) := by decide +kernel
theorem dX6_turnOnce_9 : decode cX6_turnOnce 9 = .ok (.aload_n 0, 1) := by decide +kernel
theorem dX6_turnOnce_10 : decode cX6_turnOnce 10 = .ok (.dup, 1) := by decide +kernel
theorem dX6_turnOnce_11 : decode cX6_turnOnce 11 = .ok (.getfield 56, 3) := by decide +kernel
theorem dX6_turnOnce_14 : decode cX6_turnOnce 14 = .ok (.iload_n 1, 1) := by decide +kernel
theorem dX6_turnOnce_15 : decode cX6_turnOnce 15 = .ok (.iadd, 1) := by decide +kernel
theorem dX6_turnOnce_16 : decode cX6_turnOnce 16 = .ok (.putfield 56, 3) := by decide +kernel
theorem dX6_turnOnce_19 : decode cX6_turnOnce 19 = .ok (.aload_n 0, 1) := by decide +kernel
theorem dX6_turnOnce_20 : decode cX6_turnOnce 20 = .ok (.dup, 1) := by decide +kernel
theorem dX6_turnOnce_21 : decode cX6_turnOnce 21 = .ok (.getfield 59, 3) := by decide +kernel
theorem dX6_turnOnce_24 : decode cX6_turnOnce 24 = .ok (.iconst 1, 1) := by decide +kernel
theorem dX6_turnOnce_25 : decode cX6_turnOnce 25 = .ok (.iadd, 1) := by decide +kernel
theorem dX6_turnOnce_26 : decode cX6_turnOnce 26 = .ok (.putfield 59, 3) := by decide +kernel
theorem dX6_turnOnce_29 : decode cX6_turnOnce 29 = .ok (.iload_n 1, 1) := by decide +kernel
theorem dX6_turnOnce_30 : decode cX6_turnOnce 30 = .ok (.ifCond .ne 13, 3) := by decide +kernel
theorem dX6_turnOnce_33 : decode cX6_turnOnce 33 = .ok (.aload_n 0, 1) := by decide +kernel
theorem dX6_turnOnce_34 : decode cX6_turnOnce 34 = .ok (.dup, 1) := by decide +kernel
theorem dX6_turnOnce_35 : decode cX6_turnOnce 35 = .ok (.getfield 65, 3) := by decide +kernel
theorem dX6_turnOnce_38 : decode cX6_turnOnce 38 = .ok (.iconst 1, 1) := by decide +kernel
theorem dX6_turnOnce_39 : decode cX6_turnOnce 39 = .ok (.iadd, 1) := by decide +kernel
theorem dX6_turnOnce_40 : decode cX6_turnOnce 40 = .ok (.putfield 65, 3) := by decide +kernel
theorem dX6_turnOnce_43 : decode cX6_turnOnce 43 = .ok (.iload_n 1, 1) := by decide +kernel
theorem dX6_turnOnce_44 : decode cX6_turnOnce 44 = .ok (.iconst 1, 1) := by decide +kernel
theorem dX6_turnOnce_45 : decode cX6_turnOnce 45 = .ok (.if_icmp .le 13, 3) := by decide +kernel
theorem dX6_turnOnce_48 : decode cX6_turnOnce 48 = .ok (.aload_n 0, 1) := by decide +kernel
theorem dX6_turnOnce_49 : decode cX6_turnOnce 49 = .ok (.dup, 1) := by decide +kernel
theorem dX6_turnOnce_50 : decode cX6_turnOnce 50 = .ok (.getfield 62, 3) := by decide +kernel
theorem dX6_turnOnce_53 : decode cX6_turnOnce 53 = .ok (.iconst 1, 1) := by decide +kernel
theorem dX6_turnOnce_54 : decode cX6_turnOnce 54 = .ok (.iadd, 1) := by decide +kernel
theorem dX6_turnOnce_55 : decode cX6_turnOnce 55 = .ok (.putfield 62, 3) := by decide +kernel
theorem dX6_turnOnce_58 : decode cX6_turnOnce 58 = .ok (.aload_n 0, 1) := by decide +kernel
theorem dX6_turnOnce_59 : decode cX6_turnOnce 59 = .ok (.iload_n 1, 1) := by decide +kernel
theorem dX6_turnOnce_60 : decode cX6_turnOnce 60 = .ok (.invokevirtual 97, 3) := by decide +kernel
theorem dX6_turnOnce_63 : decode cX6_turnOnce 63 = .ok (.iload_n 1, 1) := by decide +kernel
theorem dX6_turnOnce_64 : decode cX6_turnOnce 64 = .ok (.ireturn, 1) := by decide +kernel
set_option maxRecDepth 20000 in
theorem ggX6_learnFrom_X3_at : GoodIn wsX6_learnFrom wsX3_at := goodIn_r _ [15, 16, 17, 18, 19, 14, 20, 31] (by decide +kernel) (by decide +kernel)
set_option maxRecDepth 20000 in
theorem gX6_learnFrom_X3_at : GoodIn wsX6_learnFrom (wsV RX6 87 RX3 yX3_at wsX3_at) := goodIn_app (goodIn_of _ (by decide +kernel)) ggX6_learnFrom_X3_at
theorem dX6_learnFrom_0 : decode cX6_learnFrom 0 = .ok (.iload_n 1, 1) := by decide +kernel
theorem dX6_learnFrom_1 : decode cX6_learnFrom 1 = .ok (.ifCond .ne 7, 3) := by decide +kernel
theorem dX6_learnFrom_4 : decode cX6_learnFrom 4 = .ok (.iconst 2, 1) := by decide +kernel
theorem dX6_learnFrom_5 : decode cX6_learnFrom 5 = .ok (.goto 4, 3) := by decide +kernel
theorem dX6_learnFrom_8 : decode cX6_learnFrom 8 = .ok (.iconst 1, 1) := by decide +kernel
theorem dX6_learnFrom_9 : decode cX6_learnFrom 9 = .ok (.istore_n 2, 1) := by decide +kernel
theorem dX6_learnFrom_10 : decode cX6_learnFrom 10 = .ok (.iload_n 1, 1) := by decide +kernel
theorem dX6_learnFrom_11 : decode cX6_learnFrom 11 = .ok (.iconst 1, 1) := by decide +kernel
theorem dX6_learnFrom_12 : decode cX6_learnFrom 12 = .ok (.if_icmp .ne 33, 3) := by decide +kernel
theorem dX6_learnFrom_15 : decode cX6_learnFrom 15 = .ok (.iconst 0, 1) := by decide +kernel
theorem dX6_learnFrom_16 : decode cX6_learnFrom 16 = .ok (.istore_n 2, 1) := by decide +kernel
theorem dX6_learnFrom_17 : decode cX6_learnFrom 17 = .ok (.aload_n 0, 1) := by decide +kernel
theorem dX6_learnFrom_18 : decode cX6_learnFrom 18 = .ok (.dup, 1) := by decide +kernel
theorem dX6_learnFrom_19 : decode cX6_learnFrom 19 = .ok (.getfield 68, 3) := by decide +kernel
theorem dX6_learnFrom_22 : decode cX6_learnFrom 22 = .ok (.iconst 1, 1) := by decide +kernel
theorem dX6_learnFrom_23 : decode cX6_learnFrom 23 = .ok (.iadd, 1) := by decide +kernel
theorem dX6_learnFrom_24 : decode cX6_learnFrom 24 = .ok (.putfield 68, 3) := by decide +kernel
theorem dX6_learnFrom_27 : decode cX6_learnFrom 27 = .ok (.aload_n 0, 1) := by decide +kernel
theorem dX6_learnFrom_28 : decode cX6_learnFrom 28 = .ok (.getfield 68, 3) := by decide +kernel
theorem dX6_learnFrom_31 : decode cX6_learnFrom 31 = .ok (.iconst 5, 1) := by decide +kernel
theorem dX6_learnFrom_32 : decode cX6_learnFrom 32 = .ok (.if_icmp .ne 18, 3) := by decide +kernel
theorem dX6_learnFrom_35 : decode cX6_learnFrom 35 = .ok (.iconst (-1), 1) := by decide +kernel
theorem dX6_learnFrom_36 : decode cX6_learnFrom 36 = .ok (.istore_n 2, 1) := by decide +kernel
theorem dX6_learnFrom_37 : decode cX6_learnFrom 37 = .ok (.aload_n 0, 1) := by decide +kernel
theorem dX6_learnFrom_38 : decode cX6_learnFrom 38 = .ok (.iconst 0, 1) := by decide +kernel
theorem dX6_learnFrom_39 : decode cX6_learnFrom 39 = .ok (.putfield 68, 3) := by decide +kernel
theorem dX6_learnFrom_42 : decode cX6_learnFrom 42 = .ok (.goto 8, 3) := by decide +kernel
theorem dX6_learnFrom_45 : decode cX6_learnFrom 45 = .ok (.aload_n 0, 1) := by decide +kernel
theorem dX6_learnFrom_46 : decode cX6_learnFrom 46 = .ok (.iconst 0, 1) := by decide +kernel
theorem dX6_learnFrom_47 : decode cX6_learnFrom 47 = .ok (.putfield 68, 3) := by decide +kernel
theorem dX6_learnFrom_50 : decode cX6_learnFrom 50 = .ok (.aload_n 0, 1) := by decide +kernel
theorem dX6_learnFrom_51 : decode cX6_learnFrom 51 = .ok (.getfield 34, 3) := by decide +kernel
theorem dX6_learnFrom_54 : decode cX6_learnFrom 54 = .ok (.iconst 1, 1) := by decide +kernel
theorem dX6_learnFrom_55 : decode cX6_learnFrom 55 = .ok (.invokevirtual 87, 3) := by decide +kernel
theorem dX6_learnFrom_58 : decode cX6_learnFrom 58 = .ok (.iconst 1, 1) := by decide +kernel
theorem dX6_learnFrom_59 : decode cX6_learnFrom 59 = .ok (.if_icmp .ne 22, 3) := by decide +kernel
theorem dX6_learnFrom_62 : decode cX6_learnFrom 62 = .ok (.aload_n 0, 1) := by decide +kernel
theorem dX6_learnFrom_63 : decode cX6_learnFrom 63 = .ok (.iconst 1, 1) := by decide +kernel
theorem dX6_learnFrom_64 : decode cX6_learnFrom 64 = .ok (.bipush 20, 2) := by decide +kernel
theorem dX6_learnFrom_66 : decode cX6_learnFrom 66 = .ok (.aload_n 0, 1) := by decide +kernel
theorem dX6_learnFrom_67 : decode cX6_learnFrom 67 = .ok (.getfield 42, 3) := by decide +kernel
theorem dX6_learnFrom_70 : decode cX6_learnFrom 70 = .ok (.iload_n 2, 1) := by decide +kernel
theorem dX6_learnFrom_71 : decode cX6_learnFrom 71 = .ok (.iadd, 1) := by decide +kernel
theorem dX6_learnFrom_72 : decode cX6_learnFrom 72 = .ok (.invokestatic 100, 3) := by decide +kernel
theorem dX6_learnFrom_75 : decode cX6_learnFrom 75 = .ok (.invokestatic 106, 3) := by decide +kernel
theorem dX6_learnFrom_78 : decode cX6_learnFrom 78 = .ok (.putfield 42, 3) := by decide +kernel
theorem dX6_learnFrom_81 : decode cX6_learnFrom 81 = .ok (.return_, 1) := by decide +kernel
set_option maxRecDepth 20000 in
theorem ggX6_gutterIsGood_X7_isRightPage : GoodIn wsX6_gutterIsGood wsX7_isRightPage := goodIn_r _ [5] (by decide +kernel) (by decide +kernel)
set_option maxRecDepth 20000 in
theorem gX6_gutterIsGood_X7_isRightPage_n109 : GoodIn wsX6_gutterIsGood (wsX7_isRightPage) := ggX6_gutterIsGood_X7_isRightPage
set_option maxRecDepth 20000 in
theorem ggX6_gutterIsGood_X3_at : GoodIn wsX6_gutterIsGood wsX3_at := goodIn_r _ [10, 11, 12, 13, 14, 9, 15, 30] (by decide +kernel) (by decide +kernel)
set_option maxRecDepth 20000 in
theorem gX6_gutterIsGood_X3_at : GoodIn wsX6_gutterIsGood (wsV RX6 87 RX3 yX3_at wsX3_at) := goodIn_app (goodIn_of _ (by decide +kernel)) ggX6_gutterIsGood_X3_at
theorem dX6_gutterIsGood_0 : decode cX6_gutterIsGood 0 = .ok (.iload_n 1, 1) := by decide +kernel
theorem dX6_gutterIsGood_1 : decode cX6_gutterIsGood 1 = .ok (.iconst 2, 1) := by decide +kernel
theorem dX6_gutterIsGood_2 : decode cX6_gutterIsGood 2 = .ok (.idiv, 1) := by decide +kernel
theorem dX6_gutterIsGood_3 : decode cX6_gutterIsGood 3 = .ok (.istore_n 2, 1) := by decide +kernel
theorem dX6_gutterIsGood_4 : decode cX6_gutterIsGood 4 = .ok (.iload_n 1, 1) := by decide +kernel
theorem dX6_gutterIsGood_5 : decode cX6_gutterIsGood 5 = .ok (.invokestatic 109, 3) := by decide +kernel
theorem dX6_gutterIsGood_8 : decode cX6_gutterIsGood 8 = .ok (.ifCond .eq 15, 3) := by decide +kernel
theorem dX6_gutterIsGood_11 : decode cX6_gutterIsGood 11 = .ok (.aload_n 0, 1) := by decide +kernel
theorem dX6_gutterIsGood_12 : decode cX6_gutterIsGood 12 = .ok (.getfield 12, 3) := by decide +kernel
theorem dX6_gutterIsGood_15 : decode cX6_gutterIsGood 15 = .ok (.getfield 77, 3) := by decide +kernel
theorem dX6_gutterIsGood_18 : decode cX6_gutterIsGood 18 = .ok (.iload_n 2, 1) := by decide +kernel
theorem dX6_gutterIsGood_19 : decode cX6_gutterIsGood 19 = .ok (.isub, 1) := by decide +kernel
theorem dX6_gutterIsGood_20 : decode cX6_gutterIsGood 20 = .ok (.goto 6, 3) := by decide +kernel
theorem dX6_gutterIsGood_23 : decode cX6_gutterIsGood 23 = .ok (.iload_n 2, 1) := by decide +kernel
theorem dX6_gutterIsGood_24 : decode cX6_gutterIsGood 24 = .ok (.iconst 1, 1) := by decide +kernel
theorem dX6_gutterIsGood_25 : decode cX6_gutterIsGood 25 = .ok (.iadd, 1) := by decide +kernel
theorem dX6_gutterIsGood_26 : decode cX6_gutterIsGood 26 = .ok (.istore_n 3, 1) := by decide +kernel
theorem dX6_gutterIsGood_27 : decode cX6_gutterIsGood 27 = .ok (.aload_n 0, 1) := by decide +kernel
theorem dX6_gutterIsGood_28 : decode cX6_gutterIsGood 28 = .ok (.getfield 34, 3) := by decide +kernel
theorem dX6_gutterIsGood_31 : decode cX6_gutterIsGood 31 = .ok (.iconst 0, 1) := by decide +kernel
theorem dX6_gutterIsGood_32 : decode cX6_gutterIsGood 32 = .ok (.invokevirtual 87, 3) := by decide +kernel
theorem dX6_gutterIsGood_35 : decode cX6_gutterIsGood 35 = .ok (.istore 4, 2) := by decide +kernel
theorem dX6_gutterIsGood_37 : decode cX6_gutterIsGood 37 = .ok (.iload_n 3, 1) := by decide +kernel
theorem dX6_gutterIsGood_38 : decode cX6_gutterIsGood 38 = .ok (.iload 4, 2) := by decide +kernel
theorem dX6_gutterIsGood_40 : decode cX6_gutterIsGood 40 = .ok (.if_icmp .ge 17, 3) := by decide +kernel
theorem dX6_gutterIsGood_43 : decode cX6_gutterIsGood 43 = .ok (.aload_n 0, 1) := by decide +kernel
theorem dX6_gutterIsGood_44 : decode cX6_gutterIsGood 44 = .ok (.getfield 12, 3) := by decide +kernel
theorem dX6_gutterIsGood_47 : decode cX6_gutterIsGood 47 = .ok (.getfield 77, 3) := by decide +kernel
theorem dX6_gutterIsGood_50 : decode cX6_gutterIsGood 50 = .ok (.iconst 2, 1) := by decide +kernel
theorem dX6_gutterIsGood_51 : decode cX6_gutterIsGood 51 = .ok (.iload 4, 2) := by decide +kernel
theorem dX6_gutterIsGood_53 : decode cX6_gutterIsGood 53 = .ok (.imul, 1) := by decide +kernel
theorem dX6_gutterIsGood_54 : decode cX6_gutterIsGood 54 = .ok (.if_icmp .ge 7, 3) := by decide +kernel
theorem dX6_gutterIsGood_57 : decode cX6_gutterIsGood 57 = .ok (.iconst 1, 1) := by decide +kernel
theorem dX6_gutterIsGood_58 : decode cX6_gutterIsGood 58 = .ok (.goto 4, 3) := by decide +kernel
theorem dX6_gutterIsGood_61 : decode cX6_gutterIsGood 61 = .ok (.iconst 0, 1) := by decide +kernel
theorem dX6_gutterIsGood_62 : decode cX6_gutterIsGood 62 = .ok (.ireturn, 1) := by decide +kernel
set_option maxRecDepth 20000 in
theorem ggX6_pagesOpen_X6_openOnLeft : GoodIn wsX6_pagesOpen wsX6_openOnLeft := goodIn_r _ [5, 6, 19, 20, 21, 22, 23, 24, 25, 26, 27, 28] (by decide +kernel) (by decide +kernel)
set_option maxRecDepth 20000 in
theorem gX6_pagesOpen_X6_openOnLeft : GoodIn wsX6_pagesOpen (wsV RX6 113 RX6 yX6_openOnLeft wsX6_openOnLeft) := goodIn_app (goodIn_of _ (by decide +kernel)) ggX6_pagesOpen_X6_openOnLeft
set_option maxRecDepth 20000 in
theorem ggX6_pagesOpen_X7_asNumber : GoodIn wsX6_pagesOpen wsX7_asNumber := goodIn_r _ [9] (by decide +kernel) (by decide +kernel)
set_option maxRecDepth 20000 in
theorem gX6_pagesOpen_X7_asNumber_n116 : GoodIn wsX6_pagesOpen (wsX7_asNumber) := ggX6_pagesOpen_X7_asNumber
set_option maxRecDepth 20000 in
theorem ggX6_pagesOpen_X6_openOnRight : GoodIn wsX6_pagesOpen wsX6_openOnRight := goodIn_r _ [13, 6, 14, 15, 16, 4, 17, 18, 19, 20, 21, 22, 23, 24, 25, 26, 27, 28, 29, 30, 31, 32] (by decide +kernel) (by decide +kernel)
set_option maxRecDepth 20000 in
theorem gX6_pagesOpen_X6_openOnRight : GoodIn wsX6_pagesOpen (wsV RX6 120 RX6 yX6_openOnRight wsX6_openOnRight) := goodIn_app (goodIn_of _ (by decide +kernel)) ggX6_pagesOpen_X6_openOnRight
theorem dX6_pagesOpen_0 : decode cX6_pagesOpen 0 = .ok (.aload_n 0, 1) := by decide +kernel
theorem dX6_pagesOpen_1 : decode cX6_pagesOpen 1 = .ok (.invokevirtual 113, 3) := by decide +kernel
theorem dX6_pagesOpen_4 : decode cX6_pagesOpen 4 = .ok (.bipush (-5), 2) := by decide +kernel
theorem dX6_pagesOpen_6 : decode cX6_pagesOpen 6 = .ok (.if_icmp .eq 7, 3) := by decide +kernel
theorem dX6_pagesOpen_9 : decode cX6_pagesOpen 9 = .ok (.iconst 1, 1) := by decide +kernel
theorem dX6_pagesOpen_10 : decode cX6_pagesOpen 10 = .ok (.goto 4, 3) := by decide +kernel
theorem dX6_pagesOpen_13 : decode cX6_pagesOpen 13 = .ok (.iconst 0, 1) := by decide +kernel
theorem dX6_pagesOpen_14 : decode cX6_pagesOpen 14 = .ok (.invokestatic 116, 3) := by decide +kernel
theorem dX6_pagesOpen_17 : decode cX6_pagesOpen 17 = .ok (.aload_n 0, 1) := by decide +kernel
theorem dX6_pagesOpen_18 : decode cX6_pagesOpen 18 = .ok (.invokevirtual 120, 3) := by decide +kernel
theorem dX6_pagesOpen_21 : decode cX6_pagesOpen 21 = .ok (.bipush (-5), 2) := by decide +kernel
theorem dX6_pagesOpen_23 : decode cX6_pagesOpen 23 = .ok (.if_icmp .eq 7, 3) := by decide +kernel
theorem dX6_pagesOpen_26 : decode cX6_pagesOpen 26 = .ok (.iconst 1, 1) := by decide +kernel
theorem dX6_pagesOpen_27 : decode cX6_pagesOpen 27 = .ok (.goto 4, 3) := by decide +kernel
theorem dX6_pagesOpen_30 : decode cX6_pagesOpen 30 = .ok (.iconst 0, 1) := by decide +kernel
theorem dX6_pagesOpen_31 : decode cX6_pagesOpen 31 = .ok (.invokestatic 116, 3) := by decide +kernel
theorem dX6_pagesOpen_34 : decode cX6_pagesOpen 34 = .ok (.iadd, 1) := by decide +kernel
theorem dX6_pagesOpen_35 : decode cX6_pagesOpen 35 = .ok (.ireturn, 1) := by decide +kernel
set_option maxRecDepth 20000 in
theorem ggX6_hasRoomForPair_X6_pagesOpen : GoodIn wsX6_hasRoomForPair wsX6_pagesOpen := goodIn_r _ [6, 7, 8, 9, 5, 10, 11, 12, 13, 14, 15, 16, 17, 18, 19, 20, 21, 22, 23, 24, 25, 26, 27, 28, 29, 30, 31, 32, 33, 39, 40, 41, 42] (by decide +kernel) (by decide +kernel)
set_option maxRecDepth 20000 in
theorem gX6_hasRoomForPair_X6_pagesOpen : GoodIn wsX6_hasRoomForPair (wsV RX6 123 RX6 yX6_pagesOpen wsX6_pagesOpen) := goodIn_app (goodIn_of _ (by decide +kernel)) ggX6_hasRoomForPair_X6_pagesOpen
theorem dX6_hasRoomForPair_0 : decode cX6_hasRoomForPair 0 = .ok (.aload_n 0, 1) := by decide +kernel
theorem dX6_hasRoomForPair_1 : decode cX6_hasRoomForPair 1 = .ok (.getfield 21, 3) := by decide +kernel
theorem dX6_hasRoomForPair_4 : decode cX6_hasRoomForPair 4 = .ok (.getfield 74, 3) := by decide +kernel
theorem dX6_hasRoomForPair_7 : decode cX6_hasRoomForPair 7 = .ok (.aload_n 0, 1) := by decide +kernel
theorem dX6_hasRoomForPair_8 : decode cX6_hasRoomForPair 8 = .ok (.invokevirtual 123, 3) := by decide +kernel
theorem dX6_hasRoomForPair_11 : decode cX6_hasRoomForPair 11 = .ok (.iadd, 1) := by decide +kernel
theorem dX6_hasRoomForPair_12 : decode cX6_hasRoomForPair 12 = .ok (.bipush 80, 2) := by decide +kernel
theorem dX6_hasRoomForPair_14 : decode cX6_hasRoomForPair 14 = .ok (.if_icmp .gt 7, 3) := by decide +kernel
theorem dX6_hasRoomForPair_17 : decode cX6_hasRoomForPair 17 = .ok (.iconst 1, 1) := by decide +kernel
theorem dX6_hasRoomForPair_18 : decode cX6_hasRoomForPair 18 = .ok (.goto 4, 3) := by decide +kernel
theorem dX6_hasRoomForPair_21 : decode cX6_hasRoomForPair 21 = .ok (.iconst 0, 1) := by decide +kernel
theorem dX6_hasRoomForPair_22 : decode cX6_hasRoomForPair 22 = .ok (.ireturn, 1) := by decide +kernel
set_option maxRecDepth 20000 in
theorem ggX6_takePair_X6_pagesOpen : GoodIn wsX6_takePair wsX6_pagesOpen := goodIn_r _ [6, 7, 8, 9, 5, 10, 11, 12, 13, 14, 15, 16, 17, 18, 19, 20, 21, 22, 23, 60, 61, 62, 63, 64, 65, 66, 67, 68, 69, 70, 71, 72, 73] (by decide +kernel) (by decide +kernel)
set_option maxRecDepth 20000 in
theorem gX6_takePair_X6_pagesOpen : GoodIn wsX6_takePair (wsV RX6 123 RX6 yX6_pagesOpen wsX6_pagesOpen) := goodIn_app (goodIn_of _ (by decide +kernel)) ggX6_takePair_X6_pagesOpen
set_option maxRecDepth 20000 in
theorem ggX6_takePair_X6_openOnLeft : GoodIn wsX6_takePair wsX6_openOnLeft := goodIn_r _ [10, 11, 60, 61, 62, 63, 64, 65, 66, 67, 68, 69] (by decide +kernel) (by decide +kernel)
set_option maxRecDepth 20000 in
theorem gX6_takePair_X6_openOnLeft : GoodIn wsX6_takePair (wsV RX6 113 RX6 yX6_openOnLeft wsX6_openOnLeft) := goodIn_app (goodIn_of _ (by decide +kernel)) ggX6_takePair_X6_openOnLeft
set_option maxRecDepth 20000 in
theorem ggX6_takePair_X6_takePicture : GoodIn wsX6_takePair wsX6_takePicture := goodIn_r _ [27, 23, 28, 1, 29, 30, 31, 5, 32, 33, 34, 13, 35, 36, 37, 38, 39, 40, 41, 42, 43, 44, 45, 46, 47, 48, 49, 50, 51, 52, 53, 54, 55, 56, 57, 58, 59, 12, 14, 60, 61, 62, 63, 64, 65, 66, 67, 68, 69, 70, 71, 72, 73, 74, 75, 76, 77, 78, 79] (by decide +kernel) (by decide +kernel)
set_option maxRecDepth 20000 in
theorem gX6_takePair_X6_takePicture : GoodIn wsX6_takePair (wsV RX6 126 RX6 yX6_takePicture wsX6_takePicture) := goodIn_app (goodIn_of _ (by decide +kernel)) ggX6_takePair_X6_takePicture
set_option maxRecDepth 20000 in
theorem ggX6_takePair_X6_openOnRight : GoodIn wsX6_takePair wsX6_openOnRight := goodIn_r _ [18, 11, 19, 20, 21, 5, 22, 23, 60, 61, 62, 63, 64, 65, 66, 67, 68, 69, 70, 71, 72, 73] (by decide +kernel) (by decide +kernel)
set_option maxRecDepth 20000 in
theorem gX6_takePair_X6_openOnRight : GoodIn wsX6_takePair (wsV RX6 120 RX6 yX6_openOnRight wsX6_openOnRight) := goodIn_app (goodIn_of _ (by decide +kernel)) ggX6_takePair_X6_openOnRight
theorem dX6_takePair_0 : decode cX6_takePair 0 = .ok (.aload_n 0, 1) := by decide +kernel
theorem dX6_takePair_1 : decode cX6_takePair 1 = .ok (.invokevirtual 123, 3) := by decide +kernel
theorem dX6_takePair_4 : decode cX6_takePair 4 = .ok (.istore_n 1, 1) := by decide +kernel
theorem dX6_takePair_5 : decode cX6_takePair 5 = .ok (.aload_n 0, 1) := by decide +kernel
theorem dX6_takePair_6 : decode cX6_takePair 6 = .ok (.invokevirtual 113, 3) := by decide +kernel
theorem dX6_takePair_9 : decode cX6_takePair 9 = .ok (.bipush (-5), 2) := by decide +kernel
theorem dX6_takePair_11 : decode cX6_takePair 11 = .ok (.if_icmp .eq 11, 3) := by decide +kernel
theorem dX6_takePair_14 : decode cX6_takePair 14 = .ok (.aload_n 0, 1) := by decide +kernel
theorem dX6_takePair_15 : decode cX6_takePair 15 = .ok (.aload_n 0, 1) := by decide +kernel
theorem dX6_takePair_16 : decode cX6_takePair 16 = .ok (.invokevirtual 113, 3) := by decide +kernel
theorem dX6_takePair_19 : decode cX6_takePair 19 = .ok (.invokevirtual 126, 3) := by decide +kernel
theorem dX6_takePair_22 : decode cX6_takePair 22 = .ok (.aload_n 0, 1) := by decide +kernel
theorem dX6_takePair_23 : decode cX6_takePair 23 = .ok (.invokevirtual 120, 3) := by decide +kernel
theorem dX6_takePair_26 : decode cX6_takePair 26 = .ok (.bipush (-5), 2) := by decide +kernel
theorem dX6_takePair_28 : decode cX6_takePair 28 = .ok (.if_icmp .eq 11, 3) := by decide +kernel
theorem dX6_takePair_31 : decode cX6_takePair 31 = .ok (.aload_n 0, 1) := by decide +kernel
theorem dX6_takePair_32 : decode cX6_takePair 32 = .ok (.aload_n 0, 1) := by decide +kernel
theorem dX6_takePair_33 : decode cX6_takePair 33 = .ok (.invokevirtual 120, 3) := by decide +kernel
theorem dX6_takePair_36 : decode cX6_takePair 36 = .ok (.invokevirtual 126, 3) := by decide +kernel
theorem dX6_takePair_39 : decode cX6_takePair 39 = .ok (.aload_n 0, 1) := by decide +kernel
theorem dX6_takePair_40 : decode cX6_takePair 40 = .ok (.dup, 1) := by decide +kernel
theorem dX6_takePair_41 : decode cX6_takePair 41 = .ok (.getfield 71, 3) := by decide +kernel
theorem dX6_takePair_44 : decode cX6_takePair 44 = .ok (.iconst 1, 1) := by decide +kernel
theorem dX6_takePair_45 : decode cX6_takePair 45 = .ok (.iadd, 1) := by decide +kernel
theorem dX6_takePair_46 : decode cX6_takePair 46 = .ok (.putfield 71, 3) := by decide +kernel
theorem dX6_takePair_49 : decode cX6_takePair 49 = .ok (.iload_n 1, 1) := by decide +kernel
theorem dX6_takePair_50 : decode cX6_takePair 50 = .ok (.ireturn, 1) := by decide +kernel
set_option maxRecDepth 20000 in
theorem ggX6_takePicture_X6_gutterIsGood : GoodIn wsX6_takePicture wsX6_gutterIsGood := goodIn_r _ [8, 1, 9, 10, 11, 12, 13, 14, 15, 16, 17, 18, 19, 20, 21, 22, 39, 40, 41, 42, 43, 44, 45, 46, 47, 48, 49, 50, 51, 52, 53] (by decide +kernel) (by decide +kernel)
set_option maxRecDepth 20000 in
theorem gX6_takePicture_X6_gutterIsGood : GoodIn wsX6_takePicture (wsV RX6 129 RX6 yX6_gutterIsGood wsX6_gutterIsGood) := goodIn_app (goodIn_of _ (by decide +kernel)) ggX6_takePicture_X6_gutterIsGood
set_option maxRecDepth 20000 in
theorem ggX6_takePicture_X3_at : GoodIn wsX6_takePicture wsX3_at := goodIn_r _ [17, 18, 19, 20, 21, 16, 22, 53] (by decide +kernel) (by decide +kernel)
set_option maxRecDepth 20000 in
theorem gX6_takePicture_X3_at : GoodIn wsX6_takePicture (wsV RX6 87 RX3 yX3_at wsX3_at) := goodIn_app (goodIn_of _ (by decide +kernel)) ggX6_takePicture_X3_at
set_option maxRecDepth 20000 in
theorem ggX6_takePicture_X5_add : GoodIn wsX6_takePicture wsX5_add := goodIn_r _ [27, 28, 29, 30, 31, 32, 33, 34, 35, 16, 36, 18, 19, 20, 21, 22, 37, 11, 38, 54, 55, 56, 57, 58, 53] (by decide +kernel) (by decide +kernel)
set_option maxRecDepth 20000 in
theorem gX6_takePicture_X5_add : GoodIn wsX6_takePicture (wsV RX6 135 RX5 yX5_add wsX5_add) := goodIn_app (goodIn_of _ (by decide +kernel)) ggX6_takePicture_X5_add
theorem dX6_takePicture_0 : decode cX6_takePicture 0 = .ok (.aload_n 0, 1) := by decide +kernel
theorem dX6_takePicture_1 : decode cX6_takePicture 1 = .ok (.iload_n 1, 1) := by decide +kernel
theorem dX6_takePicture_2 : decode cX6_takePicture 2 = .ok (.invokevirtual 129, 3) := by decide +kernel
theorem dX6_takePicture_5 : decode cX6_takePicture 5 = .ok (.istore_n 2, 1) := by decide +kernel
theorem dX6_takePicture_6 : decode cX6_takePicture 6 = .ok (.aload_n 0, 1) := by decide +kernel
theorem dX6_takePicture_7 : decode cX6_takePicture 7 = .ok (.getfield 12, 3) := by decide +kernel
theorem dX6_takePicture_10 : decode cX6_takePicture 10 = .ok (.getfield 132, 3) := by decide +kernel
theorem dX6_takePicture_13 : decode cX6_takePicture 13 = .ok (.iload_n 1, 1) := by decide +kernel
theorem dX6_takePicture_14 : decode cX6_takePicture 14 = .ok (.invokevirtual 87, 3) := by decide +kernel
theorem dX6_takePicture_17 : decode cX6_takePicture 17 = .ok (.istore_n 3, 1) := by decide +kernel
theorem dX6_takePicture_18 : decode cX6_takePicture 18 = .ok (.iload_n 2, 1) := by decide +kernel
theorem dX6_takePicture_19 : decode cX6_takePicture 19 = .ok (.ifCond .ne 14, 3) := by decide +kernel
theorem dX6_takePicture_22 : decode cX6_takePicture 22 = .ok (.iload_n 3, 1) := by decide +kernel
theorem dX6_takePicture_23 : decode cX6_takePicture 23 = .ok (.bipush (-5), 2) := by decide +kernel
theorem dX6_takePicture_25 : decode cX6_takePicture 25 = .ok (.if_icmp .eq 8, 3) := by decide +kernel
theorem dX6_takePicture_28 : decode cX6_takePicture 28 = .ok (.iload_n 3, 1) := by decide +kernel
theorem dX6_takePicture_29 : decode cX6_takePicture 29 = .ok (.bipush 10, 2) := by decide +kernel
theorem dX6_takePicture_31 : decode cX6_takePicture 31 = .ok (.idiv, 1) := by decide +kernel
theorem dX6_takePicture_32 : decode cX6_takePicture 32 = .ok (.istore_n 3, 1) := by decide +kernel
theorem dX6_takePicture_33 : decode cX6_takePicture 33 = .ok (.aload_n 0, 1) := by decide +kernel
theorem dX6_takePicture_34 : decode cX6_takePicture 34 = .ok (.getfield 21, 3) := by decide +kernel
theorem dX6_takePicture_37 : decode cX6_takePicture 37 = .ok (.iload_n 1, 1) := by decide +kernel
theorem dX6_takePicture_38 : decode cX6_takePicture 38 = .ok (.iload_n 3, 1) := by decide +kernel
theorem dX6_takePicture_39 : decode cX6_takePicture 39 = .ok (.iload_n 2, 1) := by decide +kernel
theorem dX6_takePicture_40 : decode cX6_takePicture 40 = .ok (.aload_n 0, 1) := by decide +kernel
theorem dX6_takePicture_41 : decode cX6_takePicture 41 = .ok (.getfield 71, 3) := by decide +kernel
theorem dX6_takePicture_44 : decode cX6_takePicture 44 = .ok (.invokevirtual 135, 3) := by decide +kernel
theorem dX6_takePicture_47 : decode cX6_takePicture 47 = .ok (.return_, 1) := by decide +kernel
set_option maxRecDepth 20000 in
theorem ggX6_takeAndTurn_X6_leavesOnRight : GoodIn wsX6_takeAndTurn wsX6_leavesOnRight := goodIn_r _ [5, 6, 7, 92, 93, 94, 95, 96, 97, 98, 99, 100, 101, 102, 103, 104, 105] (by decide +kernel) (by decide +kernel)
set_option maxRecDepth 20000 in
theorem gX6_takeAndTurn_X6_leavesOnRight : GoodIn wsX6_takeAndTurn (wsV RX6 80 RX6 yX6_leavesOnRight wsX6_leavesOnRight) := goodIn_app (goodIn_of _ (by decide +kernel)) ggX6_takeAndTurn_X6_leavesOnRight
set_option maxRecDepth 20000 in
theorem ggX6_takeAndTurn_X6_hasRoomForPair : GoodIn wsX6_takeAndTurn wsX6_hasRoomForPair := goodIn_r _ [11, 12, 13, 14, 15, 4, 16, 17, 18, 19, 20, 7, 21, 22, 23, 24, 25, 26, 27, 1, 2, 3, 5, 6, 92, 93, 94, 95, 96, 97, 98, 99, 100, 101, 106, 107, 108, 109, 110, 102, 103, 104, 105] (by decide +kernel) (by decide +kernel)
set_option maxRecDepth 20000 in
theorem gX6_takeAndTurn_X6_hasRoomForPair : GoodIn wsX6_takeAndTurn (wsV RX6 139 RX6 yX6_hasRoomForPair wsX6_hasRoomForPair) := goodIn_app (goodIn_of _ (by decide +kernel)) ggX6_takeAndTurn_X6_hasRoomForPair
set_option maxRecDepth 20000 in
theorem ggX6_takeAndTurn_X6_takePair : GoodIn wsX6_takeAndTurn wsX6_takePair := goodIn_r _ [31, 32, 13, 14, 15, 4, 16, 17, 18, 19, 20, 7, 21, 22, 23, 24, 25, 26, 27, 1, 2, 3, 5, 6, 33, 34, 35, 36, 12, 37, 38, 39, 40, 41, 42, 43, 44, 45, 46, 47, 48, 49, 50, 51, 52, 53, 54, 55, 56, 57, 58, 59, 60, 61, 62, 63, 64, 65, 66, 67, 92, 93, 94, 95, 96, 97, 98, 99, 100, 101, 102, 103, 104, 105, 111, 106, 107, 108, 109, 110] (by decide +kernel) (by decide +kernel)
set_option maxRecDepth 20000 in
theorem gX6_takeAndTurn_X6_takePair : GoodIn wsX6_takeAndTurn (wsV RX6 143 RX6 yX6_takePair wsX6_takePair) := goodIn_app (goodIn_of _ (by decide +kernel)) ggX6_takeAndTurn_X6_takePair
set_option maxRecDepth 20000 in
theorem ggX6_takeAndTurn_X6_turnOnce : GoodIn wsX6_takeAndTurn wsX6_turnOnce := goodIn_r _ [71, 72, 7, 73, 74, 75, 76, 77, 78, 4, 79, 6, 44, 45, 46, 47, 48, 49, 50, 51, 52, 53, 80, 81, 82, 83, 84, 41, 85, 86, 87, 88, 89, 90, 91, 92, 93, 94, 95, 96, 97, 98, 99, 100, 101, 102, 103, 104, 105, 111] (by decide +kernel) (by decide +kernel)
set_option maxRecDepth 20000 in
theorem gX6_takeAndTurn_X6_turnOnce : GoodIn wsX6_takeAndTurn (wsV RX6 146 RX6 yX6_turnOnce wsX6_turnOnce) := goodIn_app (goodIn_of _ (by decide +kernel)) ggX6_takeAndTurn_X6_turnOnce
theorem dX6_takeAndTurn_0 : decode cX6_takeAndTurn 0 = .ok (.iconst 0, 1) := by decide +kernel
theorem dX6_takeAndTurn_1 : decode cX6_takeAndTurn 1 = .ok (.istore_n 2, 1) := by decide +kernel
theorem dX6_takeAndTurn_2 : decode cX6_takeAndTurn 2 = .ok (.iconst 0, 1) := by decide +kernel
theorem dX6_takeAndTurn_3 : decode cX6_takeAndTurn 3 = .ok (.istore_n 3, 1) := by decide +kernel
theorem dX6_takeAndTurn_4 : decode cX6_takeAndTurn 4 = .ok (.iload_n 3, 1) := by decide +kernel
theorem dX6_takeAndTurn_5 : decode cX6_takeAndTurn 5 = .ok (.iload_n 1, 1) := by decide +kernel
theorem dX6_takeAndTurn_6 : decode cX6_takeAndTurn 6 = .ok (.if_icmp .ge 38, 3) := by decide +kernel
theorem dX6_takeAndTurn_9 : decode cX6_takeAndTurn 9 = .ok (.aload_n 0, 1) := by decide +kernel
theorem dX6_takeAndTurn_10 : decode cX6_takeAndTurn 10 = .ok (.invokevirtual 80, 3) := by decide +kernel
theorem dX6_takeAndTurn_13 : decode cX6_takeAndTurn 13 = .ok (.ifCond .le 31, 3) := by decide +kernel
theorem dX6_takeAndTurn_16 : decode cX6_takeAndTurn 16 = .ok (.aload_n 0, 1) := by decide +kernel
theorem dX6_takeAndTurn_17 : decode cX6_takeAndTurn 17 = .ok (.invokevirtual 139, 3) := by decide +kernel
theorem dX6_takeAndTurn_20 : decode cX6_takeAndTurn 20 = .ok (.ifCond .ne 6, 3) := by decide +kernel
theorem dX6_takeAndTurn_23 : decode cX6_takeAndTurn 23 = .ok (.bipush (-3), 2) := by decide +kernel
theorem dX6_takeAndTurn_25 : decode cX6_takeAndTurn 25 = .ok (.ireturn, 1) := by decide +kernel
theorem dX6_takeAndTurn_26 : decode cX6_takeAndTurn 26 = .ok (.iload_n 2, 1) := by decide +kernel
theorem dX6_takeAndTurn_27 : decode cX6_takeAndTurn 27 = .ok (.aload_n 0, 1) := by decide +kernel
theorem dX6_takeAndTurn_28 : decode cX6_takeAndTurn 28 = .ok (.invokevirtual 143, 3) := by decide +kernel
theorem dX6_takeAndTurn_31 : decode cX6_takeAndTurn 31 = .ok (.iadd, 1) := by decide +kernel
theorem dX6_takeAndTurn_32 : decode cX6_takeAndTurn 32 = .ok (.istore_n 2, 1) := by decide +kernel
theorem dX6_takeAndTurn_33 : decode cX6_takeAndTurn 33 = .ok (.aload_n 0, 1) := by decide +kernel
theorem dX6_takeAndTurn_34 : decode cX6_takeAndTurn 34 = .ok (.invokevirtual 146, 3) := by decide +kernel
theorem dX6_takeAndTurn_37 : decode cX6_takeAndTurn 37 = .ok (.pop, 1) := by decide +kernel
theorem dX6_takeAndTurn_38 : decode cX6_takeAndTurn 38 = .ok (.iinc 3 1, 3) := by decide +kernel
theorem dX6_takeAndTurn_41 : decode cX6_takeAndTurn 41 = .ok (.goto (-37), 3) := by decide +kernel
theorem dX6_takeAndTurn_44 : decode cX6_takeAndTurn 44 = .ok (.aload_n 0, 1) := by decide +kernel
theorem dX6_takeAndTurn_45 : decode cX6_takeAndTurn 45 = .ok (.invokevirtual 80, 3) := by decide +kernel
theorem dX6_takeAndTurn_48 : decode cX6_takeAndTurn 48 = .ok (.ifCond .le 5, 3) := by decide +kernel
theorem dX6_takeAndTurn_51 : decode cX6_takeAndTurn 51 = .ok (.iload_n 2, 1) := by decide +kernel
theorem dX6_takeAndTurn_52 : decode cX6_takeAndTurn 52 = .ok (.ireturn, 1) := by decide +kernel
theorem dX6_takeAndTurn_53 : decode cX6_takeAndTurn 53 = .ok (.aload_n 0, 1) := by decide +kernel
theorem dX6_takeAndTurn_54 : decode cX6_takeAndTurn 54 = .ok (.invokevirtual 139, 3) := by decide +kernel
theorem dX6_takeAndTurn_57 : decode cX6_takeAndTurn 57 = .ok (.ifCond .ne 6, 3) := by decide +kernel
theorem dX6_takeAndTurn_60 : decode cX6_takeAndTurn 60 = .ok (.bipush (-3), 2) := by decide +kernel
theorem dX6_takeAndTurn_62 : decode cX6_takeAndTurn 62 = .ok (.ireturn, 1) := by decide +kernel
theorem dX6_takeAndTurn_63 : decode cX6_takeAndTurn 63 = .ok (.iload_n 2, 1) := by decide +kernel
theorem dX6_takeAndTurn_64 : decode cX6_takeAndTurn 64 = .ok (.aload_n 0, 1) := by decide +kernel
theorem dX6_takeAndTurn_65 : decode cX6_takeAndTurn 65 = .ok (.invokevirtual 143, 3) := by decide +kernel
theorem dX6_takeAndTurn_68 : decode cX6_takeAndTurn 68 = .ok (.iadd, 1) := by decide +kernel
theorem dX6_takeAndTurn_69 : decode cX6_takeAndTurn 69 = .ok (.ireturn, 1) := by decide +kernel
