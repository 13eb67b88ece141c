set_option maxRecDepth 20000 in
theorem ggX7_init_X6_init : GoodIn wsX7_init wsX6_init := goodIn_r _ [25, 26, 2, 3, 27, 28, 29, 30, 31, 32, 33, 34, 35, 36, 37, 38, 39, 40, 41, 42, 43, 44, 45, 46, 47, 48, 49, 50, 51, 52, 53, 54, 55, 56, 57, 58, 59, 60, 61, 62, 63, 64, 65, 66, 67, 68, 69, 70, 71, 72, 73, 74, 75, 76, 77, 78, 127, 128, 129, 130, 102, 103, 104, 105, 106, 107, 108, 109, 110, 111, 131, 132, 133, 134, 135, 136] (by decide +kernel) (by decide +kernel)
set_option maxRecDepth 20000 in
theorem gX7_init_X6_init : GoodIn wsX7_init (wsX6_init) := ggX7_init_X6_init
set_option maxRecDepth 20000 in
theorem ggX7_init_X2_init : GoodIn wsX7_init wsX2_init := goodIn_r _ [81, 82, 2, 3, 83, 84, 5, 6, 85, 86, 24, 25, 26, 27, 28, 29, 30, 31, 32, 33, 34, 35, 36, 37, 38, 39, 40, 41, 42, 43, 44, 45, 46, 47, 48, 49, 50, 51, 52, 53, 54, 55, 56, 57, 58, 59, 60, 61, 62, 63, 64, 65, 66, 67, 68, 69, 70, 71, 72, 73, 74, 75, 76, 77, 78, 119, 120, 102, 103, 104, 105, 106, 107, 108, 109, 110, 111, 127, 128, 129, 130, 131, 132, 133, 134, 135, 136] (by decide +kernel) (by decide +kernel)
set_option maxRecDepth 20000 in
theorem gX7_init_X2_init : GoodIn wsX7_init (wsX2_init) := ggX7_init_X2_init
set_option maxRecDepth 20000 in
theorem ggX7_init_X1_init : GoodIn wsX7_init wsX1_init := goodIn_r _ [89, 90, 2, 3, 91, 92, 93, 121, 122] (by decide +kernel) (by decide +kernel)
set_option maxRecDepth 20000 in
theorem gX7_init_X1_init : GoodIn wsX7_init (wsX1_init) := ggX7_init_X1_init
set_option maxRecDepth 20000 in
theorem ggX7_init_X4_init : GoodIn wsX7_init wsX4_init := goodIn_r _ [96, 97, 2, 3, 98, 36, 37, 99, 100, 101, 50, 51, 52, 53, 54, 55, 56, 57, 58, 136, 123, 124, 125, 126] (by decide +kernel) (by decide +kernel)
set_option maxRecDepth 20000 in
theorem gX7_init_X4_init : GoodIn wsX7_init (wsX4_init) := ggX7_init_X4_init
theorem dX7_init_0 : decode cX7_init 0 = .ok (.aload_n 0, 1) := by decide +kernel
theorem dX7_init_1 : decode cX7_init 1 = .ok (.invokespecial 1, 3) := by decide +kernel
theorem dX7_init_4 : decode cX7_init 4 = .ok (.aload_n 0, 1) := by decide +kernel
theorem dX7_init_5 : decode cX7_init 5 = .ok (.new 7, 3) := by decide +kernel
theorem dX7_init_8 : decode cX7_init 8 = .ok (.dup, 1) := by decide +kernel
theorem dX7_init_9 : decode cX7_init 9 = .ok (.invokespecial 9, 3) := by decide +kernel
theorem dX7_init_12 : decode cX7_init 12 = .ok (.putfield 10, 3) := by decide +kernel
theorem dX7_init_15 : decode cX7_init 15 = .ok (.aload_n 0, 1) := by decide +kernel
theorem dX7_init_16 : decode cX7_init 16 = .ok (.new 7, 3) := by decide +kernel
theorem dX7_init_19 : decode cX7_init 19 = .ok (.dup, 1) := by decide +kernel
theorem dX7_init_20 : decode cX7_init 20 = .ok (.invokespecial 9, 3) := by decide +kernel
theorem dX7_init_23 : decode cX7_init 23 = .ok (.putfield 16, 3) := by decide +kernel
theorem dX7_init_26 : decode cX7_init 26 = .ok (.aload_n 0, 1) := by decide +kernel
theorem dX7_init_27 : decode cX7_init 27 = .ok (.new 7, 3) := by decide +kernel
theorem dX7_init_30 : decode cX7_init 30 = .ok (.dup, 1) := by decide +kernel
theorem dX7_init_31 : decode cX7_init 31 = .ok (.invokespecial 9, 3) := by decide +kernel
theorem dX7_init_34 : decode cX7_init 34 = .ok (.putfield 19, 3) := by decide +kernel
theorem dX7_init_37 : decode cX7_init 37 = .ok (.aload_n 0, 1) := by decide +kernel
theorem dX7_init_38 : decode cX7_init 38 = .ok (.new 22, 3) := by decide +kernel
theorem dX7_init_41 : decode cX7_init 41 = .ok (.dup, 1) := by decide +kernel
theorem dX7_init_42 : decode cX7_init 42 = .ok (.invokespecial 24, 3) := by decide +kernel
theorem dX7_init_45 : decode cX7_init 45 = .ok (.putfield 25, 3) := by decide +kernel
theorem dX7_init_48 : decode cX7_init 48 = .ok (.aload_n 0, 1) := by decide +kernel
theorem dX7_init_49 : decode cX7_init 49 = .ok (.new 29, 3) := by decide +kernel
theorem dX7_init_52 : decode cX7_init 52 = .ok (.dup, 1) := by decide +kernel
theorem dX7_init_53 : decode cX7_init 53 = .ok (.invokespecial 31, 3) := by decide +kernel
theorem dX7_init_56 : decode cX7_init 56 = .ok (.putfield 32, 3) := by decide +kernel
theorem dX7_init_59 : decode cX7_init 59 = .ok (.aload_n 0, 1) := by decide +kernel
theorem dX7_init_60 : decode cX7_init 60 = .ok (.new 36, 3) := by decide +kernel
theorem dX7_init_63 : decode cX7_init 63 = .ok (.dup, 1) := by decide +kernel
theorem dX7_init_64 : decode cX7_init 64 = .ok (.invokespecial 38, 3) := by decide +kernel
theorem dX7_init_67 : decode cX7_init 67 = .ok (.putfield 39, 3) := by decide +kernel
theorem dX7_init_70 : decode cX7_init 70 = .ok (.aload_n 0, 1) := by decide +kernel
theorem dX7_init_71 : decode cX7_init 71 = .ok (.iconst 0, 1) := by decide +kernel
theorem dX7_init_72 : decode cX7_init 72 = .ok (.putfield 43, 3) := by decide +kernel
theorem dX7_init_75 : decode cX7_init 75 = .ok (.return_, 1) := by decide +kernel
set_option maxRecDepth 20000 in
theorem ggX7_takeBook_X1_readInto : GoodIn wsX7_takeBook wsX1_readInto := goodIn_r _ [9, 10, 11, 12, 13, 8, 14, 15, 16, 17, 18, 19, 20, 21, 22, 23, 24, 25, 26, 27, 28, 29, 30, 31, 32, 33, 34, 35, 36, 37, 38, 39, 40, 41, 42, 43, 44, 45, 46, 47, 48, 49, 50, 51, 52, 53, 54, 55, 56, 57, 58, 59, 60, 61, 62, 139, 140, 141, 142, 143, 144, 145] (by decide +kernel) (by decide +kernel)
set_option maxRecDepth 20000 in
theorem gX7_takeBook_X1_readInto : GoodIn wsX7_takeBook (wsV RX7 51 RX1 yX1_readInto wsX1_readInto) := goodIn_app (goodIn_of _ (by decide +kernel)) ggX7_takeBook_X1_readInto
set_option maxRecDepth 20000 in
theorem ggX7_takeBook_X2_record : GoodIn wsX7_takeBook wsX2_record := goodIn_r _ [67, 68, 69, 70, 71, 72, 66, 73, 74, 75, 76, 77, 78, 79, 80, 81, 82, 83, 84, 85, 86, 87, 88, 89, 90, 91, 31, 92, 34, 35, 36, 33, 93, 94, 95, 40, 96, 42, 97, 98, 99, 100, 101, 102, 103, 104, 105, 106, 107, 108, 109, 110, 111, 112, 113, 114, 115, 116, 146, 147, 129, 130, 131, 132, 133, 134, 135, 136, 137, 138, 139, 140, 141, 142, 145, 148, 149, 150, 151, 152] (by decide +kernel) (by decide +kernel)
set_option maxRecDepth 20000 in
theorem gX7_takeBook_X2_record : GoodIn wsX7_takeBook (wsV RX7 55 RX2 yX2_record wsX2_record) := goodIn_app (goodIn_of _ (by decide +kernel)) ggX7_takeBook_X2_record
set_option maxRecDepth 20000 in
theorem ggX7_takeBook_X6_clearForBook : GoodIn wsX7_takeBook wsX6_clearForBook := goodIn_r _ [120, 80, 82, 84, 85, 86, 87, 88, 129, 130, 131, 132, 133, 134, 135, 136, 137, 138, 148, 149, 150, 151, 152] (by decide +kernel) (by decide +kernel)
set_option maxRecDepth 20000 in
theorem gX7_takeBook_X6_clearForBook : GoodIn wsX7_takeBook (wsV RX7 59 RX6 yX6_clearForBook wsX6_clearForBook) := goodIn_app (goodIn_of _ (by decide +kernel)) ggX7_takeBook_X6_clearForBook
set_option maxRecDepth 20000 in
theorem ggX7_takeBook_X0_copyFrom : GoodIn wsX7_takeBook wsX0_copyFrom := goodIn_r _ [92, 34, 35, 36, 33, 93, 94, 95, 40, 96, 42, 97, 98, 99, 100, 101, 102, 103, 104, 139, 140, 141, 142, 145] (by decide +kernel) (by decide +kernel)
set_option maxRecDepth 20000 in
theorem gX7_takeBook_X0_copyFrom : GoodIn wsX7_takeBook (wsV RX7 62 RX0 yX0_copyFrom wsX0_copyFrom) := goodIn_app (goodIn_of _ (by decide +kernel)) ggX7_takeBook_X0_copyFrom
theorem dX7_takeBook_0 : decode cX7_takeBook 0 = .ok (.aload_n 0, 1) := by decide +kernel
theorem dX7_takeBook_1 : decode cX7_takeBook 1 = .ok (.getfield 32, 3) := by decide +kernel
theorem dX7_takeBook_4 : decode cX7_takeBook 4 = .ok (.aload_n 0, 1) := by decide +kernel
theorem dX7_takeBook_5 : decode cX7_takeBook 5 = .ok (.getfield 16, 3) := by decide +kernel
theorem dX7_takeBook_8 : decode cX7_takeBook 8 = .ok (.getfield 47, 3) := by decide +kernel
theorem dX7_takeBook_11 : decode cX7_takeBook 11 = .ok (.invokevirtual 51, 3) := by decide +kernel
theorem dX7_takeBook_14 : decode cX7_takeBook 14 = .ok (.istore_n 1, 1) := by decide +kernel
theorem dX7_takeBook_15 : decode cX7_takeBook 15 = .ok (.iload_n 1, 1) := by decide +kernel
theorem dX7_takeBook_16 : decode cX7_takeBook 16 = .ok (.bipush (-5), 2) := by decide +kernel
theorem dX7_takeBook_18 : decode cX7_takeBook 18 = .ok (.if_icmp .eq 8, 3) := by decide +kernel
theorem dX7_takeBook_21 : decode cX7_takeBook 21 = .ok (.bipush (-100), 2) := by decide +kernel
theorem dX7_takeBook_23 : decode cX7_takeBook 23 = .ok (.iload_n 1, 1) := by decide +kernel
theorem dX7_takeBook_24 : decode cX7_takeBook 24 = .ok (.isub, 1) := by decide +kernel
theorem dX7_takeBook_25 : decode cX7_takeBook 25 = .ok (.ireturn, 1) := by decide +kernel
theorem dX7_takeBook_26 : decode cX7_takeBook 26 = .ok (.aload_n 0, 1) := by decide +kernel
theorem dX7_takeBook_27 : decode cX7_takeBook 27 = .ok (.getfield 25, 3) := by decide +kernel
theorem dX7_takeBook_30 : decode cX7_takeBook 30 = .ok (.aload_n 0, 1) := by decide +kernel
theorem dX7_takeBook_31 : decode cX7_takeBook 31 = .ok (.getfield 10, 3) := by decide +kernel
theorem dX7_takeBook_34 : decode cX7_takeBook 34 = .ok (.invokevirtual 55, 3) := by decide +kernel
theorem dX7_takeBook_37 : decode cX7_takeBook 37 = .ok (.aload_n 0, 1) := by decide +kernel
theorem dX7_takeBook_38 : decode cX7_takeBook 38 = .ok (.getfield 10, 3) := by decide +kernel
theorem dX7_takeBook_41 : decode cX7_takeBook 41 = .ok (.invokevirtual 59, 3) := by decide +kernel
theorem dX7_takeBook_44 : decode cX7_takeBook 44 = .ok (.aload_n 0, 1) := by decide +kernel
theorem dX7_takeBook_45 : decode cX7_takeBook 45 = .ok (.getfield 10, 3) := by decide +kernel
theorem dX7_takeBook_48 : decode cX7_takeBook 48 = .ok (.getfield 47, 3) := by decide +kernel
theorem dX7_takeBook_51 : decode cX7_takeBook 51 = .ok (.aload_n 0, 1) := by decide +kernel
theorem dX7_takeBook_52 : decode cX7_takeBook 52 = .ok (.getfield 16, 3) := by decide +kernel
theorem dX7_takeBook_55 : decode cX7_takeBook 55 = .ok (.getfield 47, 3) := by decide +kernel
theorem dX7_takeBook_58 : decode cX7_takeBook 58 = .ok (.invokevirtual 62, 3) := by decide +kernel
theorem dX7_takeBook_61 : decode cX7_takeBook 61 = .ok (.aload_n 0, 1) := by decide +kernel
theorem dX7_takeBook_62 : decode cX7_takeBook 62 = .ok (.getfield 10, 3) := by decide +kernel
theorem dX7_takeBook_65 : decode cX7_takeBook 65 = .ok (.getfield 47, 3) := by decide +kernel
theorem dX7_takeBook_68 : decode cX7_takeBook 68 = .ok (.getfield 68, 3) := by decide +kernel
theorem dX7_takeBook_71 : decode cX7_takeBook 71 = .ok (.ireturn, 1) := by decide +kernel
set_option maxRecDepth 20000 in
theorem ggX7_layBook_X2_record : GoodIn wsX7_layBook wsX2_record := goodIn_r _ [7, 8, 9, 10, 11, 12, 6, 13, 14, 15, 16, 17, 18, 19, 20, 21, 22, 23, 24, 25, 26, 27, 28, 29, 30, 31, 32, 33, 34, 35, 36, 37, 38, 39, 40, 41, 42, 43, 44, 45, 46, 47, 48, 49, 50, 51, 52, 53, 54, 55, 56, 57, 58, 59, 60, 61, 62, 63, 109, 110, 99, 100, 101, 102, 103, 104, 105, 106, 107, 108, 111, 112, 113, 114, 115, 116, 117, 118, 119, 120] (by decide +kernel) (by decide +kernel)
set_option maxRecDepth 20000 in
theorem gX7_layBook_X2_record : GoodIn wsX7_layBook (wsV RX7 55 RX2 yX2_record wsX2_record) := goodIn_app (goodIn_of _ (by decide +kernel)) ggX7_layBook_X2_record
set_option maxRecDepth 20000 in
theorem ggX7_layBook_X6_clearForBook : GoodIn wsX7_layBook wsX6_clearForBook := goodIn_r _ [67, 20, 22, 24, 25, 26, 27, 28, 99, 100, 101, 102, 103, 104, 105, 106, 107, 108, 116, 117, 118, 119, 120] (by decide +kernel) (by decide +kernel)
set_option maxRecDepth 20000 in
theorem gX7_layBook_X6_clearForBook : GoodIn wsX7_layBook (wsV RX7 59 RX6 yX6_clearForBook wsX6_clearForBook) := goodIn_app (goodIn_of _ (by decide +kernel)) ggX7_layBook_X6_clearForBook
set_option maxRecDepth 20000 in
theorem ggX7_layBook_X0_layBySeed : GoodIn wsX7_layBook wsX0_layBySeed := goodIn_r _ [71, 37, 72, 73, 74, 32, 75, 34, 35, 36, 76, 77, 78, 41, 79, 43, 80, 81, 82, 83, 84, 85, 86, 87, 88, 89, 90, 91, 111, 112, 113, 114, 115] (by decide +kernel) (by decide +kernel)
set_option maxRecDepth 20000 in
theorem gX7_layBook_X0_layBySeed : GoodIn wsX7_layBook (wsV RX7 72 RX0 yX0_layBySeed wsX0_layBySeed) := goodIn_app (goodIn_of _ (by decide +kernel)) ggX7_layBook_X0_layBySeed
theorem dX7_layBook_0 : decode cX7_layBook 0 = .ok (.iload_n 1, 1) := by decide +kernel
theorem dX7_layBook_1 : decode cX7_layBook 1 = .ok (.iconst 1, 1) := by decide +kernel
theorem dX7_layBook_2 : decode cX7_layBook 2 = .ok (.if_icmp .lt 20, 3) := by decide +kernel
theorem dX7_layBook_5 : decode cX7_layBook 5 = .ok (.iload_n 1, 1) := by decide +kernel
theorem dX7_layBook_6 : decode cX7_layBook 6 = .ok (.bipush 30, 2) := by decide +kernel
theorem dX7_layBook_8 : decode cX7_layBook 8 = .ok (.if_icmp .gt 14, 3) := by decide +kernel
theorem dX7_layBook_11 : decode cX7_layBook 11 = .ok (.iload_n 2, 1) := by decide +kernel
theorem dX7_layBook_12 : decode cX7_layBook 12 = .ok (.ifCond .lt 10, 3) := by decide +kernel
theorem dX7_layBook_15 : decode cX7_layBook 15 = .ok (.iload_n 2, 1) := by decide +kernel
theorem dX7_layBook_16 : decode cX7_layBook 16 = .ok (.sipush 9999, 3) := by decide +kernel
theorem dX7_layBook_19 : decode cX7_layBook 19 = .ok (.if_icmp .le 6, 3) := by decide +kernel
theorem dX7_layBook_22 : decode cX7_layBook 22 = .ok (.bipush (-2), 2) := by decide +kernel
theorem dX7_layBook_24 : decode cX7_layBook 24 = .ok (.ireturn, 1) := by decide +kernel
theorem dX7_layBook_25 : decode cX7_layBook 25 = .ok (.aload_n 0, 1) := by decide +kernel
theorem dX7_layBook_26 : decode cX7_layBook 26 = .ok (.getfield 25, 3) := by decide +kernel
theorem dX7_layBook_29 : decode cX7_layBook 29 = .ok (.aload_n 0, 1) := by decide +kernel
theorem dX7_layBook_30 : decode cX7_layBook 30 = .ok (.getfield 10, 3) := by decide +kernel
theorem dX7_layBook_33 : decode cX7_layBook 33 = .ok (.invokevirtual 55, 3) := by decide +kernel
theorem dX7_layBook_36 : decode cX7_layBook 36 = .ok (.aload_n 0, 1) := by decide +kernel
theorem dX7_layBook_37 : decode cX7_layBook 37 = .ok (.getfield 10, 3) := by decide +kernel
theorem dX7_layBook_40 : decode cX7_layBook 40 = .ok (.invokevirtual 59, 3) := by decide +kernel
theorem dX7_layBook_43 : decode cX7_layBook 43 = .ok (.aload_n 0, 1) := by decide +kernel
theorem dX7_layBook_44 : decode cX7_layBook 44 = .ok (.getfield 10, 3) := by decide +kernel
theorem dX7_layBook_47 : decode cX7_layBook 47 = .ok (.getfield 47, 3) := by decide +kernel
theorem dX7_layBook_50 : decode cX7_layBook 50 = .ok (.iload_n 1, 1) := by decide +kernel
theorem dX7_layBook_51 : decode cX7_layBook 51 = .ok (.iload_n 2, 1) := by decide +kernel
theorem dX7_layBook_52 : decode cX7_layBook 52 = .ok (.invokevirtual 72, 3) := by decide +kernel
theorem dX7_layBook_55 : decode cX7_layBook 55 = .ok (.ireturn, 1) := by decide +kernel
set_option maxRecDepth 20000 in
theorem ggX7_print_X0_hasPage : GoodIn wsX7_print wsX0_hasPage := goodIn_r _ [7, 8, 9, 10, 6, 11, 12, 101, 102, 103, 104] (by decide +kernel) (by decide +kernel)
set_option maxRecDepth 20000 in
theorem gX7_print_X0_hasPage : GoodIn wsX7_print (wsV RX7 76 RX0 yX0_hasPage wsX0_hasPage) := goodIn_app (goodIn_of _ (by decide +kernel)) ggX7_print_X0_hasPage
set_option maxRecDepth 20000 in
theorem ggX7_print_X3_at : GoodIn wsX7_print wsX3_at := goodIn_r _ [17, 18, 19, 20, 21, 16, 22, 105] (by decide +kernel) (by decide +kernel)
set_option maxRecDepth 20000 in
theorem gX7_print_X3_at : GoodIn wsX7_print (wsV RX7 84 RX3 yX3_at wsX3_at) := goodIn_app (goodIn_of _ (by decide +kernel)) ggX7_print_X3_at
set_option maxRecDepth 20000 in
theorem ggX7_print_X2_record : GoodIn wsX7_print wsX2_record := goodIn_r _ [27, 28, 29, 30, 31, 32, 26, 33, 34, 35, 36, 37, 38, 39, 40, 41, 42, 43, 44, 45, 46, 47, 48, 49, 50, 51, 6, 52, 53, 54, 55, 12, 56, 57, 58, 16, 59, 18, 60, 61, 62, 63, 64, 65, 66, 67, 68, 69, 70, 71, 72, 73, 74, 75, 76, 77, 78, 79, 106, 107, 91, 92, 93, 94, 95, 96, 97, 98, 99, 100, 101, 102, 103, 104, 105, 108, 109, 110, 111, 112] (by decide +kernel) (by decide +kernel)
set_option maxRecDepth 20000 in
theorem gX7_print_X2_record : GoodIn wsX7_print (wsV RX7 55 RX2 yX2_record wsX2_record) := goodIn_app (goodIn_of _ (by decide +kernel)) ggX7_print_X2_record
set_option maxRecDepth 20000 in
theorem ggX7_print_X3_put : GoodIn wsX7_print wsX3_put := goodIn_r _ [83, 18, 19, 20, 21, 16, 22, 105] (by decide +kernel) (by decide +kernel)
set_option maxRecDepth 20000 in
theorem gX7_print_X3_put : GoodIn wsX7_print (wsV RX7 90 RX3 yX3_put wsX3_put) := goodIn_app (goodIn_of _ (by decide +kernel)) ggX7_print_X3_put
theorem dX7_print_0 : decode cX7_print 0 = .ok (.aload_n 0, 1) := by decide +kernel
theorem dX7_print_1 : decode cX7_print 1 = .ok (.getfield 10, 3) := by decide +kernel
theorem dX7_print_4 : decode cX7_print 4 = .ok (.getfield 47, 3) := by decide +kernel
theorem dX7_print_7 : decode cX7_print 7 = .ok (.iload_n 1, 1) := by decide +kernel
theorem dX7_print_8 : decode cX7_print 8 = .ok (.invokevirtual 76, 3) := by decide +kernel
theorem dX7_print_11 : decode cX7_print 11 = .ok (.ifCond .ne 5, 3) := by decide +kernel
theorem dX7_print_14 : decode cX7_print 14 = .ok (.iconst (-1), 1) := by decide +kernel
theorem dX7_print_15 : decode cX7_print 15 = .ok (.ireturn, 1) := by decide +kernel
theorem dX7_print_16 : decode cX7_print 16 = .ok (.iload_n 2, 1) := by decide +kernel
theorem dX7_print_17 : decode cX7_print 17 = .ok (.bipush (-5), 2) := by decide +kernel
theorem dX7_print_19 : decode cX7_print 19 = .ok (.if_icmp .eq 17, 3) := by decide +kernel
theorem dX7_print_22 : decode cX7_print 22 = .ok (.iload_n 2, 1) := by decide +kernel
theorem dX7_print_23 : decode cX7_print 23 = .ok (.ifCond .lt 10, 3) := by decide +kernel
theorem dX7_print_26 : decode cX7_print 26 = .ok (.iload_n 2, 1) := by decide +kernel
theorem dX7_print_27 : decode cX7_print 27 = .ok (.sipush 199, 3) := by decide +kernel
theorem dX7_print_30 : decode cX7_print 30 = .ok (.if_icmp .le 6, 3) := by decide +kernel
theorem dX7_print_33 : decode cX7_print 33 = .ok (.bipush (-2), 2) := by decide +kernel
theorem dX7_print_35 : decode cX7_print 35 = .ok (.ireturn, 1) := by decide +kernel
theorem dX7_print_36 : decode cX7_print 36 = .ok (.aload_n 0, 1) := by decide +kernel
theorem dX7_print_37 : decode cX7_print 37 = .ok (.getfield 10, 3) := by decide +kernel
theorem dX7_print_40 : decode cX7_print 40 = .ok (.getfield 47, 3) := by decide +kernel
theorem dX7_print_43 : decode cX7_print 43 = .ok (.getfield 80, 3) := by decide +kernel
theorem dX7_print_46 : decode cX7_print 46 = .ok (.iload_n 1, 1) := by decide +kernel
theorem dX7_print_47 : decode cX7_print 47 = .ok (.invokevirtual 84, 3) := by decide +kernel
theorem dX7_print_50 : decode cX7_print 50 = .ok (.istore_n 3, 1) := by decide +kernel
theorem dX7_print_51 : decode cX7_print 51 = .ok (.iload_n 3, 1) := by decide +kernel
theorem dX7_print_52 : decode cX7_print 52 = .ok (.iload_n 2, 1) := by decide +kernel
theorem dX7_print_53 : decode cX7_print 53 = .ok (.if_icmp .ne 6, 3) := by decide +kernel
theorem dX7_print_56 : decode cX7_print 56 = .ok (.bipush (-5), 2) := by decide +kernel
theorem dX7_print_58 : decode cX7_print 58 = .ok (.ireturn, 1) := by decide +kernel
theorem dX7_print_59 : decode cX7_print 59 = .ok (.aload_n 0, 1) := by decide +kernel
theorem dX7_print_60 : decode cX7_print 60 = .ok (.getfield 25, 3) := by decide +kernel
theorem dX7_print_63 : decode cX7_print 63 = .ok (.aload_n 0, 1) := by decide +kernel
theorem dX7_print_64 : decode cX7_print 64 = .ok (.getfield 10, 3) := by decide +kernel
theorem dX7_print_67 : decode cX7_print 67 = .ok (.invokevirtual 55, 3) := by decide +kernel
theorem dX7_print_70 : decode cX7_print 70 = .ok (.aload_n 0, 1) := by decide +kernel
theorem dX7_print_71 : decode cX7_print 71 = .ok (.getfield 10, 3) := by decide +kernel
theorem dX7_print_74 : decode cX7_print 74 = .ok (.getfield 47, 3) := by decide +kernel
theorem dX7_print_77 : decode cX7_print 77 = .ok (.getfield 80, 3) := by decide +kernel
theorem dX7_print_80 : decode cX7_print 80 = .ok (.iload_n 1, 1) := by decide +kernel
theorem dX7_print_81 : decode cX7_print 81 = .ok (.iload_n 2, 1) := by decide +kernel
theorem dX7_print_82 : decode cX7_print 82 = .ok (.invokevirtual 90, 3) := by decide +kernel
theorem dX7_print_85 : decode cX7_print 85 = .ok (.iload_n 3, 1) := by decide +kernel
theorem dX7_print_86 : decode cX7_print 86 = .ok (.bipush (-5), 2) := by decide +kernel
theorem dX7_print_88 : decode cX7_print 88 = .ok (.if_icmp .ne 9, 3) := by decide +kernel
theorem dX7_print_91 : decode cX7_print 91 = .ok (.sipush 200, 3) := by decide +kernel
theorem dX7_print_94 : decode cX7_print 94 = .ok (.goto 4, 3) := by decide +kernel
theorem dX7_print_97 : decode cX7_print 97 = .ok (.iload_n 3, 1) := by decide +kernel
theorem dX7_print_98 : decode cX7_print 98 = .ok (.ireturn, 1) := by decide +kernel
set_option maxRecDepth 20000 in
theorem ggX7_turn_X6_leavesOnRight : GoodIn wsX7_turn wsX6_leavesOnRight := goodIn_r _ [7, 8, 9, 99, 100, 101, 102, 103, 104, 105, 106, 107, 108, 109, 110, 111, 112] (by decide +kernel) (by decide +kernel)
set_option maxRecDepth 20000 in
theorem gX7_turn_X6_leavesOnRight : GoodIn wsX7_turn (wsV RX7 94 RX6 yX6_leavesOnRight wsX6_leavesOnRight) := goodIn_app (goodIn_of _ (by decide +kernel)) ggX7_turn_X6_leavesOnRight
set_option maxRecDepth 20000 in
theorem ggX7_turn_X2_record : GoodIn wsX7_turn wsX2_record := goodIn_r _ [14, 15, 16, 17, 18, 19, 13, 20, 21, 22, 23, 6, 24, 8, 25, 26, 9, 27, 28, 29, 30, 31, 32, 33, 34, 35, 36, 37, 38, 39, 40, 41, 42, 43, 44, 45, 46, 47, 48, 49, 50, 51, 52, 53, 54, 55, 56, 57, 58, 59, 60, 61, 62, 63, 64, 65, 66, 67, 113, 114, 99, 100, 101, 102, 103, 104, 105, 106, 107, 108, 109, 110, 111, 112, 115, 116, 117, 118, 119, 120] (by decide +kernel) (by decide +kernel)
set_option maxRecDepth 20000 in
theorem gX7_turn_X2_record : GoodIn wsX7_turn (wsV RX7 55 RX2 yX2_record wsX2_record) := goodIn_app (goodIn_of _ (by decide +kernel)) ggX7_turn_X2_record
set_option maxRecDepth 20000 in
theorem ggX7_turn_X6_turnOnce : GoodIn wsX7_turn wsX6_turnOnce := goodIn_r _ [71, 27, 9, 28, 30, 29, 72, 73, 74, 6, 75, 8, 76, 77, 78, 45, 79, 47, 80, 81, 82, 83, 84, 85, 86, 87, 31, 26, 88, 49, 50, 51, 89, 90, 91, 99, 100, 101, 102, 103, 104, 105, 106, 107, 108, 109, 110, 111, 112, 115] (by decide +kernel) (by decide +kernel)
set_option maxRecDepth 20000 in
theorem gX7_turn_X6_turnOnce : GoodIn wsX7_turn (wsV RX7 98 RX6 yX6_turnOnce wsX6_turnOnce) := goodIn_app (goodIn_of _ (by decide +kernel)) ggX7_turn_X6_turnOnce
theorem dX7_turn_0 : decode cX7_turn 0 = .ok (.aload_n 0, 1) := by decide +kernel
theorem dX7_turn_1 : decode cX7_turn 1 = .ok (.getfield 10, 3) := by decide +kernel
theorem dX7_turn_4 : decode cX7_turn 4 = .ok (.invokevirtual 94, 3) := by decide +kernel
theorem dX7_turn_7 : decode cX7_turn 7 = .ok (.ifCond .ne 6, 3) := by decide +kernel
theorem dX7_turn_10 : decode cX7_turn 10 = .ok (.bipush (-4), 2) := by decide +kernel
theorem dX7_turn_12 : decode cX7_turn 12 = .ok (.ireturn, 1) := by decide +kernel
theorem dX7_turn_13 : decode cX7_turn 13 = .ok (.aload_n 0, 1) := by decide +kernel
theorem dX7_turn_14 : decode cX7_turn 14 = .ok (.getfield 25, 3) := by decide +kernel
theorem dX7_turn_17 : decode cX7_turn 17 = .ok (.aload_n 0, 1) := by decide +kernel
theorem dX7_turn_18 : decode cX7_turn 18 = .ok (.getfield 10, 3) := by decide +kernel
theorem dX7_turn_21 : decode cX7_turn 21 = .ok (.invokevirtual 55, 3) := by decide +kernel
theorem dX7_turn_24 : decode cX7_turn 24 = .ok (.aload_n 0, 1) := by decide +kernel
theorem dX7_turn_25 : decode cX7_turn 25 = .ok (.getfield 10, 3) := by decide +kernel
theorem dX7_turn_28 : decode cX7_turn 28 = .ok (.invokevirtual 98, 3) := by decide +kernel
theorem dX7_turn_31 : decode cX7_turn 31 = .ok (.ireturn, 1) := by decide +kernel
set_option maxRecDepth 20000 in
theorem ggX7_turnBack_X2_record : GoodIn wsX7_turnBack wsX2_record := goodIn_r _ [7, 8, 9, 10, 11, 12, 6, 13, 14, 15, 16, 17, 18, 19, 20, 21, 22, 23, 24, 25, 26, 27, 28, 29, 30, 31, 32, 33, 34, 35, 36, 37, 38, 39, 40, 41, 42, 43, 44, 45, 46, 47, 48, 49, 50, 51, 52, 53, 54, 55, 56, 57, 58, 59, 60, 61, 62, 63, 81, 82, 71, 72, 73, 74, 75, 76, 77, 78, 79, 80, 83, 84, 85, 86, 87, 88, 89, 90, 91, 92] (by decide +kernel) (by decide +kernel)
set_option maxRecDepth 20000 in
theorem gX7_turnBack_X2_record : GoodIn wsX7_turnBack (wsV RX7 55 RX2 yX2_record wsX2_record) := goodIn_app (goodIn_of _ (by decide +kernel)) ggX7_turnBack_X2_record
theorem dX7_turnBack_0 : decode cX7_turnBack 0 = .ok (.aload_n 0, 1) := by decide +kernel
theorem dX7_turnBack_1 : decode cX7_turnBack 1 = .ok (.getfield 10, 3) := by decide +kernel
theorem dX7_turnBack_4 : decode cX7_turnBack 4 = .ok (.getfield 101, 3) := by decide +kernel
theorem dX7_turnBack_7 : decode cX7_turnBack 7 = .ok (.ifCond .ne 6, 3) := by decide +kernel
theorem dX7_turnBack_10 : decode cX7_turnBack 10 = .ok (.bipush (-4), 2) := by decide +kernel
theorem dX7_turnBack_12 : decode cX7_turnBack 12 = .ok (.ireturn, 1) := by decide +kernel
theorem dX7_turnBack_13 : decode cX7_turnBack 13 = .ok (.aload_n 0, 1) := by decide +kernel
theorem dX7_turnBack_14 : decode cX7_turnBack 14 = .ok (.getfield 25, 3) := by decide +kernel
theorem dX7_turnBack_17 : decode cX7_turnBack 17 = .ok (.aload_n 0, 1) := by decide +kernel
theorem dX7_turnBack_18 : decode cX7_turnBack 18 = .ok (.getfield 10, 3) := by decide +kernel
theorem dX7_turnBack_21 : decode cX7_turnBack 21 = .ok (.invokevirtual 55, 3) := by decide +kernel
theorem dX7_turnBack_24 : decode cX7_turnBack 24 = .ok (.aload_n 0, 1) := by decide +kernel
theorem dX7_turnBack_25 : decode cX7_turnBack 25 = .ok (.getfield 10, 3) := by decide +kernel
theorem dX7_turnBack_28 : decode cX7_turnBack 28 = .ok (.dup, 1) := by decide +kernel
theorem dX7_turnBack_29 : decode cX7_turnBack 29 = .ok (.getfield 101, 3) := by decide +kernel
theorem dX7_turnBack_32 : decode cX7_turnBack 32 = .ok (.iconst 1, 1) := by decide +kernel
theorem dX7_turnBack_33 : decode cX7_turnBack 33 = .ok (.isub, 1) := by decide +kernel
theorem dX7_turnBack_34 : decode cX7_turnBack 34 = .ok (.putfield 101, 3) := by decide +kernel
theorem dX7_turnBack_37 : decode cX7_turnBack 37 = .ok (.aload_n 0, 1) := by decide +kernel
theorem dX7_turnBack_38 : decode cX7_turnBack 38 = .ok (.getfield 10, 3) := by decide +kernel
theorem dX7_turnBack_41 : decode cX7_turnBack 41 = .ok (.getfield 101, 3) := by decide +kernel
theorem dX7_turnBack_44 : decode cX7_turnBack 44 = .ok (.ireturn, 1) := by decide +kernel
set_option maxRecDepth 20000 in
theorem ggX7_shoot_X6_hasBook : GoodIn wsX7_shoot wsX6_hasBook := goodIn_r _ [7, 8, 128, 129, 130, 131, 132, 133, 134, 135, 136, 137, 138, 139, 140, 141] (by decide +kernel) (by decide +kernel)
set_option maxRecDepth 20000 in
theorem gX7_shoot_X6_hasBook : GoodIn wsX7_shoot (wsV RX7 104 RX6 yX6_hasBook wsX6_hasBook) := goodIn_app (goodIn_of _ (by decide +kernel)) ggX7_shoot_X6_hasBook
set_option maxRecDepth 20000 in
theorem ggX7_shoot_X6_hasRoomForPair : GoodIn wsX7_shoot wsX6_hasRoomForPair := goodIn_r _ [12, 13, 14, 15, 16, 6, 17, 18, 19, 20, 21, 22, 23, 24, 25, 26, 27, 28, 29, 30, 31, 32, 33, 8, 128, 129, 130, 131, 132, 133, 134, 135, 136, 137, 142, 143, 144, 145, 146, 138, 139, 140, 141] (by decide +kernel) (by decide +kernel)
set_option maxRecDepth 20000 in
theorem gX7_shoot_X6_hasRoomForPair : GoodIn wsX7_shoot (wsV RX7 108 RX6 yX6_hasRoomForPair wsX6_hasRoomForPair) := goodIn_app (goodIn_of _ (by decide +kernel)) ggX7_shoot_X6_hasRoomForPair
set_option maxRecDepth 20000 in
theorem ggX7_shoot_X2_record : GoodIn wsX7_shoot wsX2_record := goodIn_r _ [38, 39, 40, 41, 42, 43, 37, 44, 45, 46, 47, 6, 48, 8, 13, 49, 22, 50, 51, 52, 53, 54, 55, 56, 57, 58, 59, 60, 61, 62, 63, 64, 65, 66, 67, 68, 69, 70, 71, 72, 73, 74, 75, 76, 77, 78, 79, 80, 81, 82, 83, 84, 85, 86, 87, 88, 89, 90, 147, 148, 128, 129, 130, 131, 132, 133, 134, 135, 136, 137, 138, 139, 140, 141, 149, 142, 143, 144, 145, 146] (by decide +kernel) (by decide +kernel)
set_option maxRecDepth 20000 in
theorem gX7_shoot_X2_record : GoodIn wsX7_shoot (wsV RX7 55 RX2 yX2_record wsX2_record) := goodIn_app (goodIn_of _ (by decide +kernel)) ggX7_shoot_X2_record
set_option maxRecDepth 20000 in
theorem ggX7_shoot_X6_takePair : GoodIn wsX7_shoot wsX6_takePair := goodIn_r _ [94, 55, 14, 15, 16, 6, 17, 18, 19, 20, 21, 22, 23, 24, 25, 26, 27, 28, 29, 30, 31, 32, 33, 8, 95, 96, 97, 98, 13, 99, 100, 101, 102, 49, 103, 104, 105, 106, 107, 68, 108, 70, 109, 110, 111, 112, 113, 114, 115, 82, 116, 88, 84, 85, 86, 87, 117, 118, 119, 120, 128, 129, 130, 131, 132, 133, 134, 135, 136, 137, 138, 139, 140, 141, 149, 142, 143, 144, 145, 146] (by decide +kernel) (by decide +kernel)
set_option maxRecDepth 20000 in
theorem gX7_shoot_X6_takePair : GoodIn wsX7_shoot (wsV RX7 111 RX6 yX6_takePair wsX6_takePair) := goodIn_app (goodIn_of _ (by decide +kernel)) ggX7_shoot_X6_takePair
theorem dX7_shoot_0 : decode cX7_shoot 0 = .ok (.aload_n 0, 1) := by decide +kernel
theorem dX7_shoot_1 : decode cX7_shoot 1 = .ok (.getfield 10, 3) := by decide +kernel
theorem dX7_shoot_4 : decode cX7_shoot 4 = .ok (.invokevirtual 104, 3) := by decide +kernel
theorem dX7_shoot_7 : decode cX7_shoot 7 = .ok (.ifCond .ne 6, 3) := by decide +kernel
theorem dX7_shoot_10 : decode cX7_shoot 10 = .ok (.bipush (-4), 2) := by decide +kernel
theorem dX7_shoot_12 : decode cX7_shoot 12 = .ok (.ireturn, 1) := by decide +kernel
theorem dX7_shoot_13 : decode cX7_shoot 13 = .ok (.aload_n 0, 1) := by decide +kernel
theorem dX7_shoot_14 : decode cX7_shoot 14 = .ok (.getfield 10, 3) := by decide +kernel
theorem dX7_shoot_17 : decode cX7_shoot 17 = .ok (.invokevirtual 108, 3) := by decide +kernel
theorem dX7_shoot_20 : decode cX7_shoot 20 = .ok (.ifCond .ne 6, 3) := by decide +kernel
theorem dX7_shoot_23 : decode cX7_shoot 23 = .ok (.bipush (-3), 2) := by decide +kernel
theorem dX7_shoot_25 : decode cX7_shoot 25 = .ok (.ireturn, 1) := by decide +kernel
theorem dX7_shoot_26 : decode cX7_shoot 26 = .ok (.aload_n 0, 1) := by decide +kernel
theorem dX7_shoot_27 : decode cX7_shoot 27 = .ok (.getfield 25, 3) := by decide +kernel
theorem dX7_shoot_30 : decode cX7_shoot 30 = .ok (.aload_n 0, 1) := by decide +kernel
theorem dX7_shoot_31 : decode cX7_shoot 31 = .ok (.getfield 10, 3) := by decide +kernel
theorem dX7_shoot_34 : decode cX7_shoot 34 = .ok (.invokevirtual 55, 3) := by decide +kernel
theorem dX7_shoot_37 : decode cX7_shoot 37 = .ok (.aload_n 0, 1) := by decide +kernel
theorem dX7_shoot_38 : decode cX7_shoot 38 = .ok (.getfield 10, 3) := by decide +kernel
theorem dX7_shoot_41 : decode cX7_shoot 41 = .ok (.invokevirtual 111, 3) := by decide +kernel
theorem dX7_shoot_44 : decode cX7_shoot 44 = .ok (.ireturn, 1) := by decide +kernel
set_option maxRecDepth 20000 in
theorem ggX7_scan_X6_hasBook : GoodIn wsX7_scan wsX6_hasBook := goodIn_r _ [8, 9, 150, 151, 152, 153, 154, 155, 156, 157, 158, 159, 160, 161, 162, 163] (by decide +kernel) (by decide +kernel)
set_option maxRecDepth 20000 in
theorem gX7_scan_X6_hasBook : GoodIn wsX7_scan (wsV RX7 104 RX6 yX6_hasBook wsX6_hasBook) := goodIn_app (goodIn_of _ (by decide +kernel)) ggX7_scan_X6_hasBook
set_option maxRecDepth 20000 in
theorem ggX7_scan_X6_copyFrom : GoodIn wsX7_scan wsX6_copyFrom := goodIn_r _ [13, 9, 14, 15, 16, 17, 18, 19, 20, 21, 22, 23, 24, 25, 26, 27, 28, 29, 30, 31, 32, 33, 34, 35, 36, 37, 38, 39, 40, 41, 42, 43, 44, 45, 46, 47, 48, 49, 50, 51, 52, 53, 54, 55, 56, 57, 150, 151, 152, 153, 154, 155, 156, 157, 158, 159, 160, 161, 162, 163, 164, 165, 166, 167, 168, 169] (by decide +kernel) (by decide +kernel)
set_option maxRecDepth 20000 in
theorem gX7_scan_X6_copyFrom : GoodIn wsX7_scan (wsV RX7 114 RX6 yX6_copyFrom wsX6_copyFrom) := goodIn_app (goodIn_of _ (by decide +kernel)) ggX7_scan_X6_copyFrom
set_option maxRecDepth 20000 in
theorem ggX7_scan_X6_takeAndTurn : GoodIn wsX7_scan wsX6_takeAndTurn := goodIn_r _ [61, 62, 63, 64, 7, 65, 9, 16, 66, 67, 68, 69, 14, 70, 71, 72, 73, 74, 75, 76, 77, 78, 79, 80, 81, 82, 83, 84, 85, 86, 87, 88, 22, 89, 90, 91, 92, 93, 94, 95, 96, 15, 97, 98, 99, 100, 101, 35, 102, 37, 103, 104, 105, 106, 107, 108, 109, 49, 110, 55, 51, 52, 53, 54, 111, 112, 113, 114, 115, 116, 117, 118, 17, 18, 20, 19, 119, 120, 121, 122, 123, 124, 125, 126, 21, 127, 39, 40, 41, 128, 129, 130, 150, 151, 152, 153, 154, 155, 156, 157, 158, 159, 160, 161, 162, 163, 165, 166, 167, 168, 169, 164] (by decide +kernel) (by decide +kernel)
set_option maxRecDepth 20000 in
theorem gX7_scan_X6_takeAndTurn : GoodIn wsX7_scan (wsV RX7 116 RX6 yX6_takeAndTurn wsX6_takeAndTurn) := goodIn_app (goodIn_of _ (by decide +kernel)) ggX7_scan_X6_takeAndTurn
set_option maxRecDepth 20000 in
theorem ggX7_scan_X2_record : GoodIn wsX7_scan wsX2_record := goodIn_r _ [135, 136, 137, 138, 139, 140, 134, 141, 142, 11, 12, 7, 13, 9, 14, 15, 16, 17, 18, 19, 20, 21, 22, 23, 24, 25, 26, 27, 28, 29, 30, 31, 32, 33, 34, 35, 36, 37, 38, 39, 40, 41, 42, 43, 44, 45, 46, 47, 48, 49, 50, 51, 52, 53, 54, 55, 56, 57, 170, 171, 150, 151, 152, 153, 154, 155, 156, 157, 158, 159, 160, 161, 162, 163, 164, 165, 166, 167, 168, 169] (by decide +kernel) (by decide +kernel)
set_option maxRecDepth 20000 in
theorem gX7_scan_X2_record : GoodIn wsX7_scan (wsV RX7 55 RX2 yX2_record wsX2_record) := goodIn_app (goodIn_of _ (by decide +kernel)) ggX7_scan_X2_record
theorem dX7_scan_0 : decode cX7_scan 0 = .ok (.iload_n 1, 1) := by decide +kernel
theorem dX7_scan_1 : decode cX7_scan 1 = .ok (.iconst 1, 1) := by decide +kernel
theorem dX7_scan_2 : decode cX7_scan 2 = .ok (.if_icmp .lt 9, 3) := by decide +kernel
theorem dX7_scan_5 : decode cX7_scan 5 = .ok (.iload_n 1, 1) := by decide +kernel
theorem dX7_scan_6 : decode cX7_scan 6 = .ok (.bipush 60, 2) := by decide +kernel
theorem dX7_scan_8 : decode cX7_scan 8 = .ok (.if_icmp .le 6, 3) := by decide +kernel
theorem dX7_scan_11 : decode cX7_scan 11 = .ok (.bipush (-2), 2) := by decide +kernel
theorem dX7_scan_13 : decode cX7_scan 13 = .ok (.ireturn, 1) := by decide +kernel
theorem dX7_scan_14 : decode cX7_scan 14 = .ok (.aload_n 0, 1) := by decide +kernel
theorem dX7_scan_15 : decode cX7_scan 15 = .ok (.getfield 10, 3) := by decide +kernel
theorem dX7_scan_18 : decode cX7_scan 18 = .ok (.invokevirtual 104, 3) := by decide +kernel
theorem dX7_scan_21 : decode cX7_scan 21 = .ok (.ifCond .ne 6, 3) := by decide +kernel
theorem dX7_scan_24 : decode cX7_scan 24 = .ok (.bipush (-4), 2) := by decide +kernel
theorem dX7_scan_26 : decode cX7_scan 26 = .ok (.ireturn, 1) := by decide +kernel
theorem dX7_scan_27 : decode cX7_scan 27 = .ok (.aload_n 0, 1) := by decide +kernel
theorem dX7_scan_28 : decode cX7_scan 28 = .ok (.getfield 16, 3) := by decide +kernel
theorem dX7_scan_31 : decode cX7_scan 31 = .ok (.aload_n 0, 1) := by decide +kernel
theorem dX7_scan_32 : decode cX7_scan 32 = .ok (.getfield 10, 3) := by decide +kernel
theorem dX7_scan_35 : decode cX7_scan 35 = .ok (.invokevirtual 114, 3) := by decide +kernel
theorem dX7_scan_38 : decode cX7_scan 38 = .ok (.aload_n 0, 1) := by decide +kernel
theorem dX7_scan_39 : decode cX7_scan 39 = .ok (.getfield 16, 3) := by decide +kernel
theorem dX7_scan_42 : decode cX7_scan 42 = .ok (.iload_n 1, 1) := by decide +kernel
theorem dX7_scan_43 : decode cX7_scan 43 = .ok (.invokevirtual 116, 3) := by decide +kernel
theorem dX7_scan_46 : decode cX7_scan 46 = .ok (.istore_n 2, 1) := by decide +kernel
theorem dX7_scan_47 : decode cX7_scan 47 = .ok (.iload_n 2, 1) := by decide +kernel
theorem dX7_scan_48 : decode cX7_scan 48 = .ok (.bipush (-3), 2) := by decide +kernel
theorem dX7_scan_50 : decode cX7_scan 50 = .ok (.if_icmp .ne 6, 3) := by decide +kernel
theorem dX7_scan_53 : decode cX7_scan 53 = .ok (.bipush (-3), 2) := by decide +kernel
theorem dX7_scan_55 : decode cX7_scan 55 = .ok (.ireturn, 1) := by decide +kernel
theorem dX7_scan_56 : decode cX7_scan 56 = .ok (.aload_n 0, 1) := by decide +kernel
theorem dX7_scan_57 : decode cX7_scan 57 = .ok (.getfield 25, 3) := by decide +kernel
theorem dX7_scan_60 : decode cX7_scan 60 = .ok (.aload_n 0, 1) := by decide +kernel
theorem dX7_scan_61 : decode cX7_scan 61 = .ok (.getfield 10, 3) := by decide +kernel
theorem dX7_scan_64 : decode cX7_scan 64 = .ok (.invokevirtual 55, 3) := by decide +kernel
theorem dX7_scan_67 : decode cX7_scan 67 = .ok (.aload_n 0, 1) := by decide +kernel
theorem dX7_scan_68 : decode cX7_scan 68 = .ok (.getfield 10, 3) := by decide +kernel
theorem dX7_scan_71 : decode cX7_scan 71 = .ok (.aload_n 0, 1) := by decide +kernel
theorem dX7_scan_72 : decode cX7_scan 72 = .ok (.getfield 16, 3) := by decide +kernel
theorem dX7_scan_75 : decode cX7_scan 75 = .ok (.invokevirtual 114, 3) := by decide +kernel
theorem dX7_scan_78 : decode cX7_scan 78 = .ok (.iload_n 2, 1) := by decide +kernel
theorem dX7_scan_79 : decode cX7_scan 79 = .ok (.ireturn, 1) := by decide +kernel
set_option maxRecDepth 20000 in
theorem ggX7_throwAway_X5_has : GoodIn wsX7_throwAway wsX5_has := goodIn_r _ [7, 8, 98, 99, 100, 101, 102] (by decide +kernel) (by decide +kernel)
set_option maxRecDepth 20000 in
theorem gX7_throwAway_X5_has : GoodIn wsX7_throwAway (wsV RX7 123 RX5 yX5_has wsX5_has) := goodIn_app (goodIn_of _ (by decide +kernel)) ggX7_throwAway_X5_has
set_option maxRecDepth 20000 in
theorem ggX7_throwAway_X2_record : GoodIn wsX7_throwAway wsX2_record := goodIn_r _ [13, 14, 15, 16, 17, 18, 12, 19, 20, 21, 22, 23, 24, 25, 26, 27, 28, 29, 30, 31, 32, 33, 34, 35, 36, 37, 38, 39, 40, 41, 42, 43, 44, 45, 46, 47, 48, 49, 50, 51, 52, 53, 54, 55, 56, 57, 58, 59, 60, 6, 61, 62, 63, 64, 65, 8, 66, 67, 103, 104, 88, 89, 90, 91, 92, 93, 94, 95, 96, 97, 105, 106, 107, 108, 109, 98, 99, 100, 101, 102] (by decide +kernel) (by decide +kernel)
set_option maxRecDepth 20000 in
theorem gX7_throwAway_X2_record : GoodIn wsX7_throwAway (wsV RX7 55 RX2 yX2_record wsX2_record) := goodIn_app (goodIn_of _ (by decide +kernel)) ggX7_throwAway_X2_record
set_option maxRecDepth 20000 in
theorem ggX7_throwAway_X5_removeAt : GoodIn wsX7_throwAway wsX5_removeAt := goodIn_r _ [71, 62, 63, 64, 65, 8, 72, 4, 5, 6, 7, 73, 74, 75, 47, 76, 49, 54, 55, 56, 57, 77, 78, 79, 80, 98, 99, 100, 101, 102, 109] (by decide +kernel) (by decide +kernel)
set_option maxRecDepth 20000 in
theorem gX7_throwAway_X5_removeAt : GoodIn wsX7_throwAway (wsV RX7 128 RX5 yX5_removeAt wsX5_removeAt) := goodIn_app (goodIn_of _ (by decide +kernel)) ggX7_throwAway_X5_removeAt
theorem dX7_throwAway_0 : decode cX7_throwAway 0 = .ok (.aload_n 0, 1) := by decide +kernel
theorem dX7_throwAway_1 : decode cX7_throwAway 1 = .ok (.getfield 10, 3) := by decide +kernel
theorem dX7_throwAway_4 : decode cX7_throwAway 4 = .ok (.getfield 119, 3) := by decide +kernel
theorem dX7_throwAway_7 : decode cX7_throwAway 7 = .ok (.iload_n 1, 1) := by decide +kernel
theorem dX7_throwAway_8 : decode cX7_throwAway 8 = .ok (.invokevirtual 123, 3) := by decide +kernel
theorem dX7_throwAway_11 : decode cX7_throwAway 11 = .ok (.ifCond .ne 5, 3) := by decide +kernel
theorem dX7_throwAway_14 : decode cX7_throwAway 14 = .ok (.iconst (-1), 1) := by decide +kernel
theorem dX7_throwAway_15 : decode cX7_throwAway 15 = .ok (.ireturn, 1) := by decide +kernel
theorem dX7_throwAway_16 : decode cX7_throwAway 16 = .ok (.aload_n 0, 1) := by decide +kernel
theorem dX7_throwAway_17 : decode cX7_throwAway 17 = .ok (.getfield 25, 3) := by decide +kernel
theorem dX7_throwAway_20 : decode cX7_throwAway 20 = .ok (.aload_n 0, 1) := by decide +kernel
theorem dX7_throwAway_21 : decode cX7_throwAway 21 = .ok (.getfield 10, 3) := by decide +kernel
theorem dX7_throwAway_24 : decode cX7_throwAway 24 = .ok (.invokevirtual 55, 3) := by decide +kernel
theorem dX7_throwAway_27 : decode cX7_throwAway 27 = .ok (.aload_n 0, 1) := by decide +kernel
theorem dX7_throwAway_28 : decode cX7_throwAway 28 = .ok (.getfield 10, 3) := by decide +kernel
theorem dX7_throwAway_31 : decode cX7_throwAway 31 = .ok (.getfield 119, 3) := by decide +kernel
theorem dX7_throwAway_34 : decode cX7_throwAway 34 = .ok (.iload_n 1, 1) := by decide +kernel
theorem dX7_throwAway_35 : decode cX7_throwAway 35 = .ok (.invokevirtual 128, 3) := by decide +kernel
theorem dX7_throwAway_38 : decode cX7_throwAway 38 = .ok (.aload_n 0, 1) := by decide +kernel
theorem dX7_throwAway_39 : decode cX7_throwAway 39 = .ok (.getfield 10, 3) := by decide +kernel
theorem dX7_throwAway_42 : decode cX7_throwAway 42 = .ok (.getfield 119, 3) := by decide +kernel
theorem dX7_throwAway_45 : decode cX7_throwAway 45 = .ok (.getfield 132, 3) := by decide +kernel
theorem dX7_throwAway_48 : decode cX7_throwAway 48 = .ok (.ireturn, 1) := by decide +kernel
set_option maxRecDepth 20000 in
theorem ggX7_setSuction_X7_isSuction : GoodIn wsX7_setSuction wsX7_isSuction := goodIn_r _ [6] (by decide +kernel) (by decide +kernel)
set_option maxRecDepth 20000 in
theorem gX7_setSuction_X7_isSuction : GoodIn wsX7_setSuction (va_wsS RX7 135 yX7_isSuction wsX7_isSuction) := goodIn_app (goodIn_of _ (by decide +kernel)) ggX7_setSuction_X7_isSuction
set_option maxRecDepth 20000 in
theorem ggX7_setSuction_X2_record : GoodIn wsX7_setSuction wsX2_record := goodIn_r _ [11, 12, 13, 14, 15, 16, 10, 17, 18, 19, 20, 21, 22, 23, 24, 25, 26, 27, 28, 29, 30, 31, 32, 33, 34, 35, 36, 37, 38, 39, 40, 41, 42, 43, 44, 45, 46, 47, 48, 49, 50, 51, 52, 53, 54, 55, 56, 57, 58, 59, 60, 61, 62, 63, 64, 65, 66, 67, 85, 86, 75, 76, 77, 78, 79, 80, 81, 82, 83, 84, 87, 88, 89, 90, 91, 92, 93, 94, 95, 96] (by decide +kernel) (by decide +kernel)
set_option maxRecDepth 20000 in
theorem gX7_setSuction_X2_record : GoodIn wsX7_setSuction (wsV RX7 55 RX2 yX2_record wsX2_record) := goodIn_app (goodIn_of _ (by decide +kernel)) ggX7_setSuction_X2_record
theorem dX7_setSuction_0 : decode cX7_setSuction 0 = .ok (.iload_n 1, 1) := by decide +kernel
theorem dX7_setSuction_1 : decode cX7_setSuction 1 = .ok (.invokestatic 135, 3) := by decide +kernel
theorem dX7_setSuction_4 : decode cX7_setSuction 4 = .ok (.ifCond .ne 6, 3) := by decide +kernel
theorem dX7_setSuction_7 : decode cX7_setSuction 7 = .ok (.bipush (-2), 2) := by decide +kernel
theorem dX7_setSuction_9 : decode cX7_setSuction 9 = .ok (.ireturn, 1) := by decide +kernel
theorem dX7_setSuction_10 : decode cX7_setSuction 10 = .ok (.aload_n 0, 1) := by decide +kernel
theorem dX7_setSuction_11 : decode cX7_setSuction 11 = .ok (.getfield 10, 3) := by decide +kernel
theorem dX7_setSuction_14 : decode cX7_setSuction 14 = .ok (.getfield 138, 3) := by decide +kernel
theorem dX7_setSuction_17 : decode cX7_setSuction 17 = .ok (.istore_n 2, 1) := by decide +kernel
theorem dX7_setSuction_18 : decode cX7_setSuction 18 = .ok (.iload_n 2, 1) := by decide +kernel
theorem dX7_setSuction_19 : decode cX7_setSuction 19 = .ok (.iload_n 1, 1) := by decide +kernel
theorem dX7_setSuction_20 : decode cX7_setSuction 20 = .ok (.if_icmp .ne 6, 3) := by decide +kernel
theorem dX7_setSuction_23 : decode cX7_setSuction 23 = .ok (.bipush (-5), 2) := by decide +kernel
theorem dX7_setSuction_25 : decode cX7_setSuction 25 = .ok (.ireturn, 1) := by decide +kernel
theorem dX7_setSuction_26 : decode cX7_setSuction 26 = .ok (.aload_n 0, 1) := by decide +kernel
theorem dX7_setSuction_27 : decode cX7_setSuction 27 = .ok (.getfield 25, 3) := by decide +kernel
theorem dX7_setSuction_30 : decode cX7_setSuction 30 = .ok (.aload_n 0, 1) := by decide +kernel
theorem dX7_setSuction_31 : decode cX7_setSuction 31 = .ok (.getfield 10, 3) := by decide +kernel
theorem dX7_setSuction_34 : decode cX7_setSuction 34 = .ok (.invokevirtual 55, 3) := by decide +kernel
theorem dX7_setSuction_37 : decode cX7_setSuction 37 = .ok (.aload_n 0, 1) := by decide +kernel
theorem dX7_setSuction_38 : decode cX7_setSuction 38 = .ok (.getfield 10, 3) := by decide +kernel
theorem dX7_setSuction_41 : decode cX7_setSuction 41 = .ok (.iload_n 1, 1) := by decide +kernel
theorem dX7_setSuction_42 : decode cX7_setSuction 42 = .ok (.putfield 138, 3) := by decide +kernel
theorem dX7_setSuction_45 : decode cX7_setSuction 45 = .ok (.iload_n 2, 1) := by decide +kernel
theorem dX7_setSuction_46 : decode cX7_setSuction 46 = .ok (.ireturn, 1) := by decide +kernel
set_option maxRecDepth 20000 in
theorem ggX7_set_X3_at : GoodIn wsX7_set wsX3_at := goodIn_r _ [8, 9, 10, 11, 12, 7, 13, 94] (by decide +kernel) (by decide +kernel)
set_option maxRecDepth 20000 in
theorem gX7_set_X3_at : GoodIn wsX7_set (wsV RX7 84 RX3 yX3_at wsX3_at) := goodIn_app (goodIn_of _ (by decide +kernel)) ggX7_set_X3_at
set_option maxRecDepth 20000 in
theorem ggX7_set_X2_record : GoodIn wsX7_set wsX2_record := goodIn_r _ [18, 19, 20, 21, 22, 23, 17, 24, 25, 26, 27, 28, 29, 30, 31, 32, 33, 34, 35, 36, 37, 38, 39, 40, 41, 42, 43, 44, 45, 46, 47, 48, 49, 50, 51, 7, 52, 9, 53, 54, 55, 56, 57, 58, 59, 60, 61, 62, 63, 64, 65, 66, 67, 68, 69, 70, 71, 72, 95, 96, 84, 85, 86, 87, 88, 89, 90, 91, 92, 93, 97, 98, 99, 100, 94, 101, 102, 103, 104, 105] (by decide +kernel) (by decide +kernel)
set_option maxRecDepth 20000 in
theorem gX7_set_X2_record : GoodIn wsX7_set (wsV RX7 55 RX2 yX2_record wsX2_record) := goodIn_app (goodIn_of _ (by decide +kernel)) ggX7_set_X2_record
set_option maxRecDepth 20000 in
theorem ggX7_set_X3_put : GoodIn wsX7_set wsX3_put := goodIn_r _ [76, 9, 10, 11, 12, 7, 13, 94] (by decide +kernel) (by decide +kernel)
set_option maxRecDepth 20000 in
theorem gX7_set_X3_put : GoodIn wsX7_set (wsV RX7 90 RX3 yX3_put wsX3_put) := goodIn_app (goodIn_of _ (by decide +kernel)) ggX7_set_X3_put
theorem dX7_set_0 : decode cX7_set 0 = .ok (.iload_n 1, 1) := by decide +kernel
theorem dX7_set_1 : decode cX7_set 1 = .ok (.ifCond .lt 11, 3) := by decide +kernel
theorem dX7_set_4 : decode cX7_set 4 = .ok (.iload_n 1, 1) := by decide +kernel
theorem dX7_set_5 : decode cX7_set 5 = .ok (.getstatic 141, 3) := by decide +kernel
theorem dX7_set_8 : decode cX7_set 8 = .ok (.arraylength, 1) := by decide +kernel
theorem dX7_set_9 : decode cX7_set 9 = .ok (.if_icmp .lt 6, 3) := by decide +kernel
theorem dX7_set_12 : decode cX7_set 12 = .ok (.bipush (-2), 2) := by decide +kernel
theorem dX7_set_14 : decode cX7_set 14 = .ok (.ireturn, 1) := by decide +kernel
theorem dX7_set_15 : decode cX7_set 15 = .ok (.iload_n 2, 1) := by decide +kernel
theorem dX7_set_16 : decode cX7_set 16 = .ok (.ifCond .lt 12, 3) := by decide +kernel
theorem dX7_set_19 : decode cX7_set 19 = .ok (.iload_n 2, 1) := by decide +kernel
theorem dX7_set_20 : decode cX7_set 20 = .ok (.getstatic 141, 3) := by decide +kernel
theorem dX7_set_23 : decode cX7_set 23 = .ok (.iload_n 1, 1) := by decide +kernel
theorem dX7_set_24 : decode cX7_set 24 = .ok (.iaload, 1) := by decide +kernel
theorem dX7_set_25 : decode cX7_set 25 = .ok (.if_icmp .le 6, 3) := by decide +kernel
theorem dX7_set_28 : decode cX7_set 28 = .ok (.bipush (-2), 2) := by decide +kernel
theorem dX7_set_30 : decode cX7_set 30 = .ok (.ireturn, 1) := by decide +kernel
theorem dX7_set_31 : decode cX7_set 31 = .ok (.aload_n 0, 1) := by decide +kernel
theorem dX7_set_32 : decode cX7_set 32 = .ok (.getfield 10, 3) := by decide +kernel
theorem dX7_set_35 : decode cX7_set 35 = .ok (.getfield 145, 3) := by decide +kernel
theorem dX7_set_38 : decode cX7_set 38 = .ok (.iload_n 1, 1) := by decide +kernel
theorem dX7_set_39 : decode cX7_set 39 = .ok (.invokevirtual 84, 3) := by decide +kernel
theorem dX7_set_42 : decode cX7_set 42 = .ok (.istore_n 3, 1) := by decide +kernel
theorem dX7_set_43 : decode cX7_set 43 = .ok (.iload_n 3, 1) := by decide +kernel
theorem dX7_set_44 : decode cX7_set 44 = .ok (.iload_n 2, 1) := by decide +kernel
theorem dX7_set_45 : decode cX7_set 45 = .ok (.if_icmp .ne 6, 3) := by decide +kernel
theorem dX7_set_48 : decode cX7_set 48 = .ok (.bipush (-5), 2) := by decide +kernel
theorem dX7_set_50 : decode cX7_set 50 = .ok (.ireturn, 1) := by decide +kernel
theorem dX7_set_51 : decode cX7_set 51 = .ok (.aload_n 0, 1) := by decide +kernel
theorem dX7_set_52 : decode cX7_set 52 = .ok (.getfield 25, 3) := by decide +kernel
theorem dX7_set_55 : decode cX7_set 55 = .ok (.aload_n 0, 1) := by decide +kernel
theorem dX7_set_56 : decode cX7_set 56 = .ok (.getfield 10, 3) := by decide +kernel
theorem dX7_set_59 : decode cX7_set 59 = .ok (.invokevirtual 55, 3) := by decide +kernel
theorem dX7_set_62 : decode cX7_set 62 = .ok (.aload_n 0, 1) := by decide +kernel
theorem dX7_set_63 : decode cX7_set 63 = .ok (.getfield 10, 3) := by decide +kernel
theorem dX7_set_66 : decode cX7_set 66 = .ok (.getfield 145, 3) := by decide +kernel
theorem dX7_set_69 : decode cX7_set 69 = .ok (.iload_n 1, 1) := by decide +kernel
theorem dX7_set_70 : decode cX7_set 70 = .ok (.iload_n 2, 1) := by decide +kernel
theorem dX7_set_71 : decode cX7_set 71 = .ok (.invokevirtual 90, 3) := by decide +kernel
theorem dX7_set_74 : decode cX7_set 74 = .ok (.iload_n 3, 1) := by decide +kernel
theorem dX7_set_75 : decode cX7_set 75 = .ok (.ireturn, 1) := by decide +kernel
set_option maxRecDepth 20000 in
theorem ggX7_type_X1_add : GoodIn wsX7_type wsX1_add := goodIn_r _ [6, 7, 8, 16, 17] (by decide +kernel) (by decide +kernel)
set_option maxRecDepth 20000 in
theorem gX7_type_X1_add : GoodIn wsX7_type (wsV RX7 151 RX1 yX1_add wsX1_add) := goodIn_app (goodIn_of _ (by decide +kernel)) ggX7_type_X1_add
theorem dX7_type_0 : decode cX7_type 0 = .ok (.aload_n 0, 1) := by decide +kernel
theorem dX7_type_1 : decode cX7_type 1 = .ok (.getfield 32, 3) := by decide +kernel
theorem dX7_type_4 : decode cX7_type 4 = .ok (.getfield 148, 3) := by decide +kernel
theorem dX7_type_7 : decode cX7_type 7 = .ok (.bipush 60, 2) := by decide +kernel
theorem dX7_type_9 : decode cX7_type 9 = .ok (.if_icmp .lt 6, 3) := by decide +kernel
theorem dX7_type_12 : decode cX7_type 12 = .ok (.bipush (-3), 2) := by decide +kernel
theorem dX7_type_14 : decode cX7_type 14 = .ok (.ireturn, 1) := by decide +kernel
theorem dX7_type_15 : decode cX7_type 15 = .ok (.aload_n 0, 1) := by decide +kernel
theorem dX7_type_16 : decode cX7_type 16 = .ok (.getfield 32, 3) := by decide +kernel
theorem dX7_type_19 : decode cX7_type 19 = .ok (.iload_n 1, 1) := by decide +kernel
theorem dX7_type_20 : decode cX7_type 20 = .ok (.invokevirtual 151, 3) := by decide +kernel
theorem dX7_type_23 : decode cX7_type 23 = .ok (.aload_n 0, 1) := by decide +kernel
theorem dX7_type_24 : decode cX7_type 24 = .ok (.getfield 32, 3) := by decide +kernel
theorem dX7_type_27 : decode cX7_type 27 = .ok (.getfield 148, 3) := by decide +kernel
theorem dX7_type_30 : decode cX7_type 30 = .ok (.ireturn, 1) := by decide +kernel
theorem dX7_clearText_0 : decode cX7_clearText 0 = .ok (.aload_n 0, 1) := by decide +kernel
theorem dX7_clearText_1 : decode cX7_clearText 1 = .ok (.getfield 32, 3) := by decide +kernel
theorem dX7_clearText_4 : decode cX7_clearText 4 = .ok (.getfield 148, 3) := by decide +kernel
theorem dX7_clearText_7 : decode cX7_clearText 7 = .ok (.istore_n 1, 1) := by decide +kernel
theorem dX7_clearText_8 : decode cX7_clearText 8 = .ok (.aload_n 0, 1) := by decide +kernel
theorem dX7_clearText_9 : decode cX7_clearText 9 = .ok (.getfield 32, 3) := by decide +kernel
theorem dX7_clearText_12 : decode cX7_clearText 12 = .ok (.iconst 0, 1) := by decide +kernel
theorem dX7_clearText_13 : decode cX7_clearText 13 = .ok (.putfield 148, 3) := by decide +kernel
theorem dX7_clearText_16 : decode cX7_clearText 16 = .ok (.iload_n 1, 1) := by decide +kernel
theorem dX7_clearText_17 : decode cX7_clearText 17 = .ok (.ireturn, 1) := by decide +kernel
set_option maxRecDepth 20000 in
theorem ggX7_undo_X2_takeLatestInto : GoodIn wsX7_undo wsX2_takeLatestInto := goodIn_r _ [7, 8, 9, 10, 11, 12, 13, 14, 15, 16, 17, 18, 19, 20, 21, 22, 23, 24, 25, 26, 27, 28, 29, 30, 31, 32, 33, 34, 35, 36, 37, 38, 39, 40, 41, 42, 43, 44, 45, 46, 47, 48, 49, 50, 51, 52, 53, 54, 55, 56, 57, 58, 59, 67, 68, 69, 70, 71, 72, 73, 74, 75, 76, 77, 78, 79, 80, 81, 82, 83, 84, 85, 86, 87, 88] (by decide +kernel) (by decide +kernel)
set_option maxRecDepth 20000 in
theorem gX7_undo_X2_takeLatestInto : GoodIn wsX7_undo (wsV RX7 156 RX2 yX2_takeLatestInto wsX2_takeLatestInto) := goodIn_app (goodIn_of _ (by decide +kernel)) ggX7_undo_X2_takeLatestInto
theorem dX7_undo_0 : decode cX7_undo 0 = .ok (.aload_n 0, 1) := by decide +kernel
theorem dX7_undo_1 : decode cX7_undo 1 = .ok (.getfield 25, 3) := by decide +kernel
theorem dX7_undo_4 : decode cX7_undo 4 = .ok (.getfield 155, 3) := by decide +kernel
theorem dX7_undo_7 : decode cX7_undo 7 = .ok (.ifCond .ne 6, 3) := by decide +kernel
theorem dX7_undo_10 : decode cX7_undo 10 = .ok (.bipush (-5), 2) := by decide +kernel
theorem dX7_undo_12 : decode cX7_undo 12 = .ok (.ireturn, 1) := by decide +kernel
theorem dX7_undo_13 : decode cX7_undo 13 = .ok (.aload_n 0, 1) := by decide +kernel
theorem dX7_undo_14 : decode cX7_undo 14 = .ok (.getfield 25, 3) := by decide +kernel
theorem dX7_undo_17 : decode cX7_undo 17 = .ok (.aload_n 0, 1) := by decide +kernel
theorem dX7_undo_18 : decode cX7_undo 18 = .ok (.getfield 10, 3) := by decide +kernel
theorem dX7_undo_21 : decode cX7_undo 21 = .ok (.invokevirtual 156, 3) := by decide +kernel
theorem dX7_undo_24 : decode cX7_undo 24 = .ok (.aload_n 0, 1) := by decide +kernel
theorem dX7_undo_25 : decode cX7_undo 25 = .ok (.getfield 25, 3) := by decide +kernel
theorem dX7_undo_28 : decode cX7_undo 28 = .ok (.getfield 155, 3) := by decide +kernel
theorem dX7_undo_31 : decode cX7_undo 31 = .ok (.ireturn, 1) := by decide +kernel
set_option maxRecDepth 20000 in
theorem ggX7_keep_X6_copyFrom : GoodIn wsX7_keep wsX6_copyFrom := goodIn_r _ [8, 9, 10, 11, 12, 13, 14, 15, 16, 17, 18, 19, 20, 21, 22, 23, 24, 25, 26, 27, 28, 29, 30, 31, 32, 33, 34, 35, 36, 37, 38, 39, 40, 41, 42, 43, 44, 45, 46, 47, 48, 49, 50, 51, 52, 53, 61, 62, 63, 64, 65, 66, 67, 68, 69, 70, 76, 77, 78, 79, 80, 71, 72, 73, 74, 75] (by decide +kernel) (by decide +kernel)
set_option maxRecDepth 20000 in
theorem gX7_keep_X6_copyFrom : GoodIn wsX7_keep (wsV RX7 114 RX6 yX6_copyFrom wsX6_copyFrom) := goodIn_app (goodIn_of _ (by decide +kernel)) ggX7_keep_X6_copyFrom
theorem dX7_keep_0 : decode cX7_keep 0 = .ok (.aload_n 0, 1) := by decide +kernel
theorem dX7_keep_1 : decode cX7_keep 1 = .ok (.getfield 19, 3) := by decide +kernel
theorem dX7_keep_4 : decode cX7_keep 4 = .ok (.aload_n 0, 1) := by decide +kernel
theorem dX7_keep_5 : decode cX7_keep 5 = .ok (.getfield 10, 3) := by decide +kernel
theorem dX7_keep_8 : decode cX7_keep 8 = .ok (.invokevirtual 114, 3) := by decide +kernel
theorem dX7_keep_11 : decode cX7_keep 11 = .ok (.aload_n 0, 1) := by decide +kernel
theorem dX7_keep_12 : decode cX7_keep 12 = .ok (.iconst 1, 1) := by decide +kernel
theorem dX7_keep_13 : decode cX7_keep 13 = .ok (.putfield 43, 3) := by decide +kernel
theorem dX7_keep_16 : decode cX7_keep 16 = .ok (.aload_n 0, 1) := by decide +kernel
theorem dX7_keep_17 : decode cX7_keep 17 = .ok (.getfield 10, 3) := by decide +kernel
theorem dX7_keep_20 : decode cX7_keep 20 = .ok (.getfield 119, 3) := by decide +kernel
theorem dX7_keep_23 : decode cX7_keep 23 = .ok (.getfield 132, 3) := by decide +kernel
theorem dX7_keep_26 : decode cX7_keep 26 = .ok (.ireturn, 1) := by decide +kernel
set_option maxRecDepth 20000 in
theorem ggX7_restore_X2_record : GoodIn wsX7_restore wsX2_record := goodIn_r _ [9, 10, 11, 12, 13, 14, 8, 15, 16, 17, 18, 19, 20, 21, 22, 23, 24, 25, 26, 27, 28, 29, 30, 31, 32, 33, 34, 35, 36, 37, 38, 39, 40, 41, 42, 43, 44, 45, 46, 47, 48, 49, 50, 51, 52, 53, 54, 55, 56, 57, 58, 59, 60, 61, 62, 63, 64, 65, 89, 90, 74, 75, 76, 77, 78, 79, 80, 81, 82, 83, 91, 92, 93, 94, 95, 84, 85, 86, 87, 88] (by decide +kernel) (by decide +kernel)
set_option maxRecDepth 20000 in
theorem gX7_restore_X2_record : GoodIn wsX7_restore (wsV RX7 55 RX2 yX2_record wsX2_record) := goodIn_app (goodIn_of _ (by decide +kernel)) ggX7_restore_X2_record
set_option maxRecDepth 20000 in
theorem ggX7_restore_X6_copyFrom : GoodIn wsX7_restore wsX6_copyFrom := goodIn_r _ [20, 21, 22, 23, 24, 25, 26, 27, 28, 29, 30, 31, 32, 33, 34, 35, 36, 37, 38, 39, 40, 41, 42, 43, 44, 45, 46, 47, 48, 49, 50, 51, 52, 53, 54, 55, 56, 57, 58, 59, 60, 61, 62, 63, 64, 65, 74, 75, 76, 77, 78, 79, 80, 81, 82, 83, 91, 92, 93, 94, 95, 84, 85, 86, 87, 88] (by decide +kernel) (by decide +kernel)
set_option maxRecDepth 20000 in
theorem gX7_restore_X6_copyFrom : GoodIn wsX7_restore (wsV RX7 114 RX6 yX6_copyFrom wsX6_copyFrom) := goodIn_app (goodIn_of _ (by decide +kernel)) ggX7_restore_X6_copyFrom
theorem dX7_restore_0 : decode cX7_restore 0 = .ok (.aload_n 0, 1) := by decide +kernel
theorem dX7_restore_1 : decode cX7_restore 1 = .ok (.getfield 43, 3) := by decide +kernel
theorem dX7_restore_4 : decode cX7_restore 4 = .ok (.ifCond .ne 6, 3) := by decide +kernel
theorem dX7_restore_7 : decode cX7_restore 7 = .ok (.bipush (-5), 2) := by decide +kernel
theorem dX7_restore_9 : decode cX7_restore 9 = .ok (.ireturn, 1) := by decide +kernel
theorem dX7_restore_10 : decode cX7_restore 10 = .ok (.aload_n 0, 1) := by decide +kernel
theorem dX7_restore_11 : decode cX7_restore 11 = .ok (.getfield 25, 3) := by decide +kernel
theorem dX7_restore_14 : decode cX7_restore 14 = .ok (.aload_n 0, 1) := by decide +kernel
theorem dX7_restore_15 : decode cX7_restore 15 = .ok (.getfield 10, 3) := by decide +kernel
theorem dX7_restore_18 : decode cX7_restore 18 = .ok (.invokevirtual 55, 3) := by decide +kernel
theorem dX7_restore_21 : decode cX7_restore 21 = .ok (.aload_n 0, 1) := by decide +kernel
theorem dX7_restore_22 : decode cX7_restore 22 = .ok (.getfield 10, 3) := by decide +kernel
theorem dX7_restore_25 : decode cX7_restore 25 = .ok (.aload_n 0, 1) := by decide +kernel
theorem dX7_restore_26 : decode cX7_restore 26 = .ok (.getfield 19, 3) := by decide +kernel
theorem dX7_restore_29 : decode cX7_restore 29 = .ok (.invokevirtual 114, 3) := by decide +kernel
theorem dX7_restore_32 : decode cX7_restore 32 = .ok (.aload_n 0, 1) := by decide +kernel
theorem dX7_restore_33 : decode cX7_restore 33 = .ok (.getfield 10, 3) := by decide +kernel
theorem dX7_restore_36 : decode cX7_restore 36 = .ok (.getfield 119, 3) := by decide +kernel
theorem dX7_restore_39 : decode cX7_restore 39 = .ok (.getfield 132, 3) := by decide +kernel
theorem dX7_restore_42 : decode cX7_restore 42 = .ok (.ireturn, 1) := by decide +kernel
set_option maxRecDepth 20000 in
theorem ggX7_leaf_X3_at : GoodIn wsX7_leaf wsX3_at := goodIn_r _ [6, 7, 8, 9, 10, 5, 11, 37] (by decide +kernel) (by decide +kernel)
set_option maxRecDepth 20000 in
theorem gX7_leaf_X3_at : GoodIn wsX7_leaf (wsV RX7 84 RX3 yX3_at wsX3_at) := goodIn_app (goodIn_of _ (by decide +kernel)) ggX7_leaf_X3_at
set_option maxRecDepth 20000 in
theorem ggX7_leaf_X7_asNumber : GoodIn wsX7_leaf wsX7_asNumber := goodIn_r _ [15] (by decide +kernel) (by decide +kernel)
set_option maxRecDepth 20000 in
theorem gX7_leaf_X7_asNumber : GoodIn wsX7_leaf (va_wsS RX7 165 yX7_asNumber wsX7_asNumber) := goodIn_app (goodIn_of _ (by decide +kernel)) ggX7_leaf_X7_asNumber
theorem dX7_leaf_0 : decode cX7_leaf 0 = .ok (.iload_n 1, 1) := by decide +kernel
theorem dX7_leaf_1 : decode cX7_leaf 1 = .ok (.ifCond .lt 17, 3) := by decide +kernel
theorem dX7_leaf_4 : decode cX7_leaf 4 = .ok (.iload_n 1, 1) := by decide +kernel
theorem dX7_leaf_5 : decode cX7_leaf 5 = .ok (.aload_n 0, 1) := by decide +kernel
theorem dX7_leaf_6 : decode cX7_leaf 6 = .ok (.getfield 10, 3) := by decide +kernel
theorem dX7_leaf_9 : decode cX7_leaf 9 = .ok (.getfield 47, 3) := by decide +kernel
theorem dX7_leaf_12 : decode cX7_leaf 12 = .ok (.getfield 68, 3) := by decide +kernel
theorem dX7_leaf_15 : decode cX7_leaf 15 = .ok (.if_icmp .lt 5, 3) := by decide +kernel
theorem dX7_leaf_18 : decode cX7_leaf 18 = .ok (.iconst (-1), 1) := by decide +kernel
theorem dX7_leaf_19 : decode cX7_leaf 19 = .ok (.ireturn, 1) := by decide +kernel
theorem dX7_leaf_20 : decode cX7_leaf 20 = .ok (.iload_n 2, 1) := by decide +kernel
theorem dX7_leaf_21 : decode cX7_leaf 21 = .ok (.tableswitch 77 0 2 #[27, 42, 57], 27) := by decide +kernel
theorem dX7_leaf_48 : decode cX7_leaf 48 = .ok (.aload_n 0, 1) := by decide +kernel
theorem dX7_leaf_49 : decode cX7_leaf 49 = .ok (.getfield 10, 3) := by decide +kernel
theorem dX7_leaf_52 : decode cX7_leaf 52 = .ok (.getfield 47, 3) := by decide +kernel
theorem dX7_leaf_55 : decode cX7_leaf 55 = .ok (.getfield 159, 3) := by decide +kernel
theorem dX7_leaf_58 : decode cX7_leaf 58 = .ok (.iload_n 1, 1) := by decide +kernel
theorem dX7_leaf_59 : decode cX7_leaf 59 = .ok (.invokevirtual 84, 3) := by decide +kernel
theorem dX7_leaf_62 : decode cX7_leaf 62 = .ok (.ireturn, 1) := by decide +kernel
theorem dX7_leaf_63 : decode cX7_leaf 63 = .ok (.aload_n 0, 1) := by decide +kernel
theorem dX7_leaf_64 : decode cX7_leaf 64 = .ok (.getfield 10, 3) := by decide +kernel
theorem dX7_leaf_67 : decode cX7_leaf 67 = .ok (.getfield 47, 3) := by decide +kernel
theorem dX7_leaf_70 : decode cX7_leaf 70 = .ok (.getfield 162, 3) := by decide +kernel
theorem dX7_leaf_73 : decode cX7_leaf 73 = .ok (.iload_n 1, 1) := by decide +kernel
theorem dX7_leaf_74 : decode cX7_leaf 74 = .ok (.invokevirtual 84, 3) := by decide +kernel
theorem dX7_leaf_77 : decode cX7_leaf 77 = .ok (.ireturn, 1) := by decide +kernel
theorem dX7_leaf_78 : decode cX7_leaf 78 = .ok (.iload_n 1, 1) := by decide +kernel
theorem dX7_leaf_79 : decode cX7_leaf 79 = .ok (.aload_n 0, 1) := by decide +kernel
theorem dX7_leaf_80 : decode cX7_leaf 80 = .ok (.getfield 10, 3) := by decide +kernel
theorem dX7_leaf_83 : decode cX7_leaf 83 = .ok (.getfield 101, 3) := by decide +kernel
theorem dX7_leaf_86 : decode cX7_leaf 86 = .ok (.if_icmp .ge 7, 3) := by decide +kernel
theorem dX7_leaf_89 : decode cX7_leaf 89 = .ok (.iconst 1, 1) := by decide +kernel
theorem dX7_leaf_90 : decode cX7_leaf 90 = .ok (.goto 4, 3) := by decide +kernel
theorem dX7_leaf_93 : decode cX7_leaf 93 = .ok (.iconst 0, 1) := by decide +kernel
theorem dX7_leaf_94 : decode cX7_leaf 94 = .ok (.invokestatic 165, 3) := by decide +kernel
theorem dX7_leaf_97 : decode cX7_leaf 97 = .ok (.ireturn, 1) := by decide +kernel
theorem dX7_leaf_98 : decode cX7_leaf 98 = .ok (.bipush (-2), 2) := by decide +kernel
theorem dX7_leaf_100 : decode cX7_leaf 100 = .ok (.ireturn, 1) := by decide +kernel
set_option maxRecDepth 20000 in
theorem ggX7_page_X0_hasPage : GoodIn wsX7_page wsX0_hasPage := goodIn_r _ [7, 8, 9, 10, 6, 11, 12, 103, 104, 105, 106] (by decide +kernel) (by decide +kernel)
set_option maxRecDepth 20000 in
theorem gX7_page_X0_hasPage : GoodIn wsX7_page (wsV RX7 76 RX0 yX0_hasPage wsX0_hasPage) := goodIn_app (goodIn_of _ (by decide +kernel)) ggX7_page_X0_hasPage
set_option maxRecDepth 20000 in
theorem ggX7_page_X3_at : GoodIn wsX7_page wsX3_at := goodIn_r _ [17, 18, 19, 20, 21, 16, 22, 111] (by decide +kernel) (by decide +kernel)
set_option maxRecDepth 20000 in
theorem gX7_page_X3_at : GoodIn wsX7_page (wsV RX7 84 RX3 yX3_at wsX3_at) := goodIn_app (goodIn_of _ (by decide +kernel)) ggX7_page_X3_at
set_option maxRecDepth 20000 in
theorem ggX7_page_X4_makeFor : GoodIn wsX7_page wsX4_makeFor := goodIn_r _ [27, 28, 29, 30, 31, 32, 9, 10, 6, 11, 12, 33, 34, 35, 16, 36, 18, 37, 38, 39, 40, 41, 42, 43, 26, 44, 45, 14, 15, 17, 19, 20, 21, 22, 46, 47, 48, 49, 50, 51, 52, 53, 4, 5, 7, 8, 54, 55, 56, 57, 58, 59, 60, 61, 93, 94, 95, 96, 97, 98, 99, 100, 101, 102, 112, 113, 114, 115, 116, 107, 108, 109, 110, 103, 104, 105, 106, 111] (by decide +kernel) (by decide +kernel)
set_option maxRecDepth 20000 in
theorem gX7_page_X4_makeFor : GoodIn wsX7_page (wsV RX7 169 RX4 yX4_makeFor wsX4_makeFor) := goodIn_app (goodIn_of _ (by decide +kernel)) ggX7_page_X4_makeFor
set_option maxRecDepth 20000 in
theorem ggX7_page_X5_howManyShow : GoodIn wsX7_page wsX5_howManyShow := goodIn_r _ [65, 66, 67, 52, 14, 15, 16, 17, 18, 19, 20, 21, 22, 112, 113, 114, 115, 116, 111] (by decide +kernel) (by decide +kernel)
set_option maxRecDepth 20000 in
theorem gX7_page_X5_howManyShow : GoodIn wsX7_page (wsV RX7 175 RX5 yX5_howManyShow wsX5_howManyShow) := goodIn_app (goodIn_of _ (by decide +kernel)) ggX7_page_X5_howManyShow
set_option maxRecDepth 20000 in
theorem ggX7_page_X4_isDoubtful : GoodIn wsX7_page wsX4_isDoubtful := goodIn_r _ [71, 30, 45, 14, 15, 16, 17, 18, 19, 20, 21, 22, 107, 108, 109, 110, 112, 113, 114, 115, 116, 111] (by decide +kernel) (by decide +kernel)
set_option maxRecDepth 20000 in
theorem gX7_page_X4_isDoubtful : GoodIn wsX7_page (wsV RX7 178 RX4 yX4_isDoubtful wsX4_isDoubtful) := goodIn_app (goodIn_of _ (by decide +kernel)) ggX7_page_X4_isDoubtful
set_option maxRecDepth 20000 in
theorem ggX7_page_X7_asNumber : GoodIn wsX7_page wsX7_asNumber := goodIn_r _ [75] (by decide +kernel) (by decide +kernel)
set_option maxRecDepth 20000 in
theorem gX7_page_X7_asNumber : GoodIn wsX7_page (va_wsS RX7 165 yX7_asNumber wsX7_asNumber) := goodIn_app (goodIn_of _ (by decide +kernel)) ggX7_page_X7_asNumber
set_option maxRecDepth 20000 in
theorem ggX7_page_X6_gutterIsGood : GoodIn wsX7_page wsX6_gutterIsGood := goodIn_r _ [80, 81, 82, 83, 74, 84, 85, 14, 15, 16, 17, 18, 19, 20, 21, 22, 93, 94, 95, 96, 97, 98, 99, 100, 101, 102, 103, 104, 105, 106, 111] (by decide +kernel) (by decide +kernel)
set_option maxRecDepth 20000 in
theorem gX7_page_X6_gutterIsGood : GoodIn wsX7_page (wsV RX7 182 RX6 yX6_gutterIsGood wsX6_gutterIsGood) := goodIn_app (goodIn_of _ (by decide +kernel)) ggX7_page_X6_gutterIsGood
theorem dX7_page_0 : decode cX7_page 0 = .ok (.aload_n 0, 1) := by decide +kernel
theorem dX7_page_1 : decode cX7_page 1 = .ok (.getfield 10, 3) := by decide +kernel
theorem dX7_page_4 : decode cX7_page 4 = .ok (.getfield 47, 3) := by decide +kernel
theorem dX7_page_7 : decode cX7_page 7 = .ok (.iload_n 1, 1) := by decide +kernel
theorem dX7_page_8 : decode cX7_page 8 = .ok (.invokevirtual 76, 3) := by decide +kernel
theorem dX7_page_11 : decode cX7_page 11 = .ok (.ifCond .ne 5, 3) := by decide +kernel
theorem dX7_page_14 : decode cX7_page 14 = .ok (.iconst (-1), 1) := by decide +kernel
theorem dX7_page_15 : decode cX7_page 15 = .ok (.ireturn, 1) := by decide +kernel
theorem dX7_page_16 : decode cX7_page 16 = .ok (.iload_n 2, 1) := by decide +kernel
theorem dX7_page_17 : decode cX7_page 17 = .ok (.tableswitch 127 0 4 #[35, 50, 73, 85, 115], 35) := by decide +kernel
theorem dX7_page_52 : decode cX7_page 52 = .ok (.aload_n 0, 1) := by decide +kernel
theorem dX7_page_53 : decode cX7_page 53 = .ok (.getfield 10, 3) := by decide +kernel
theorem dX7_page_56 : decode cX7_page 56 = .ok (.getfield 47, 3) := by decide +kernel
theorem dX7_page_59 : decode cX7_page 59 = .ok (.getfield 80, 3) := by decide +kernel
theorem dX7_page_62 : decode cX7_page 62 = .ok (.iload_n 1, 1) := by decide +kernel
theorem dX7_page_63 : decode cX7_page 63 = .ok (.invokevirtual 84, 3) := by decide +kernel
theorem dX7_page_66 : decode cX7_page 66 = .ok (.ireturn, 1) := by decide +kernel
theorem dX7_page_67 : decode cX7_page 67 = .ok (.aload_n 0, 1) := by decide +kernel
theorem dX7_page_68 : decode cX7_page 68 = .ok (.getfield 39, 3) := by decide +kernel
theorem dX7_page_71 : decode cX7_page 71 = .ok (.aload_n 0, 1) := by decide +kernel
theorem dX7_page_72 : decode cX7_page 72 = .ok (.getfield 10, 3) := by decide +kernel
theorem dX7_page_75 : decode cX7_page 75 = .ok (.invokevirtual 169, 3) := by decide +kernel
theorem dX7_page_78 : decode cX7_page 78 = .ok (.aload_n 0, 1) := by decide +kernel
theorem dX7_page_79 : decode cX7_page 79 = .ok (.getfield 39, 3) := by decide +kernel
theorem dX7_page_82 : decode cX7_page 82 = .ok (.getfield 172, 3) := by decide +kernel
theorem dX7_page_85 : decode cX7_page 85 = .ok (.iload_n 1, 1) := by decide +kernel
theorem dX7_page_86 : decode cX7_page 86 = .ok (.invokevirtual 84, 3) := by decide +kernel
theorem dX7_page_89 : decode cX7_page 89 = .ok (.ireturn, 1) := by decide +kernel
theorem dX7_page_90 : decode cX7_page 90 = .ok (.aload_n 0, 1) := by decide +kernel
theorem dX7_page_91 : decode cX7_page 91 = .ok (.getfield 10, 3) := by decide +kernel
theorem dX7_page_94 : decode cX7_page 94 = .ok (.getfield 119, 3) := by decide +kernel
theorem dX7_page_97 : decode cX7_page 97 = .ok (.iload_n 1, 1) := by decide +kernel
theorem dX7_page_98 : decode cX7_page 98 = .ok (.invokevirtual 175, 3) := by decide +kernel
theorem dX7_page_101 : decode cX7_page 101 = .ok (.ireturn, 1) := by decide +kernel
theorem dX7_page_102 : decode cX7_page 102 = .ok (.aload_n 0, 1) := by decide +kernel
theorem dX7_page_103 : decode cX7_page 103 = .ok (.getfield 39, 3) := by decide +kernel
theorem dX7_page_106 : decode cX7_page 106 = .ok (.aload_n 0, 1) := by decide +kernel
theorem dX7_page_107 : decode cX7_page 107 = .ok (.getfield 10, 3) := by decide +kernel
theorem dX7_page_110 : decode cX7_page 110 = .ok (.invokevirtual 169, 3) := by decide +kernel
theorem dX7_page_113 : decode cX7_page 113 = .ok (.aload_n 0, 1) := by decide +kernel
theorem dX7_page_114 : decode cX7_page 114 = .ok (.getfield 39, 3) := by decide +kernel
theorem dX7_page_117 : decode cX7_page 117 = .ok (.iload_n 1, 1) := by decide +kernel
theorem dX7_page_118 : decode cX7_page 118 = .ok (.aload_n 0, 1) := by decide +kernel
theorem dX7_page_119 : decode cX7_page 119 = .ok (.getfield 10, 3) := by decide +kernel
theorem dX7_page_122 : decode cX7_page 122 = .ok (.getfield 119, 3) := by decide +kernel
theorem dX7_page_125 : decode cX7_page 125 = .ok (.invokevirtual 178, 3) := by decide +kernel
theorem dX7_page_128 : decode cX7_page 128 = .ok (.invokestatic 165, 3) := by decide +kernel
theorem dX7_page_131 : decode cX7_page 131 = .ok (.ireturn, 1) := by decide +kernel
theorem dX7_page_132 : decode cX7_page 132 = .ok (.aload_n 0, 1) := by decide +kernel
theorem dX7_page_133 : decode cX7_page 133 = .ok (.getfield 10, 3) := by decide +kernel
theorem dX7_page_136 : decode cX7_page 136 = .ok (.iload_n 1, 1) := by decide +kernel
theorem dX7_page_137 : decode cX7_page 137 = .ok (.invokevirtual 182, 3) := by decide +kernel
theorem dX7_page_140 : decode cX7_page 140 = .ok (.invokestatic 165, 3) := by decide +kernel
theorem dX7_page_143 : decode cX7_page 143 = .ok (.ireturn, 1) := by decide +kernel
theorem dX7_page_144 : decode cX7_page 144 = .ok (.bipush (-2), 2) := by decide +kernel
theorem dX7_page_146 : decode cX7_page 146 = .ok (.ireturn, 1) := by decide +kernel
set_option maxRecDepth 20000 in
theorem ggX7_picture_X5_has : GoodIn wsX7_picture wsX5_has := goodIn_r _ [7, 8, 95, 96, 97, 98, 99] (by decide +kernel) (by decide +kernel)
set_option maxRecDepth 20000 in
theorem gX7_picture_X5_has : GoodIn wsX7_picture (wsV RX7 123 RX5 yX5_has wsX5_has) := goodIn_app (goodIn_of _ (by decide +kernel)) ggX7_picture_X5_has
set_option maxRecDepth 20000 in
theorem ggX7_picture_X3_at : GoodIn wsX7_picture wsX3_at := goodIn_r _ [13, 14, 15, 16, 17, 12, 18, 104] (by decide +kernel) (by decide +kernel)
set_option maxRecDepth 20000 in
theorem gX7_picture_X3_at : GoodIn wsX7_picture (wsV RX7 84 RX3 yX3_at wsX3_at) := goodIn_app (goodIn_of _ (by decide +kernel)) ggX7_picture_X3_at
set_option maxRecDepth 20000 in
theorem ggX7_picture_X5_isGood : GoodIn wsX7_picture wsX5_isGood := goodIn_r _ [22, 23, 24, 10, 11, 12, 13, 14, 15, 16, 17, 18, 95, 96, 97, 98, 99, 104] (by decide +kernel) (by decide +kernel)
set_option maxRecDepth 20000 in
theorem gX7_picture_X5_isGood : GoodIn wsX7_picture (wsV RX7 191 RX5 yX5_isGood wsX5_isGood) := goodIn_app (goodIn_of _ (by decide +kernel)) ggX7_picture_X5_isGood
set_option maxRecDepth 20000 in
theorem ggX7_picture_X7_asNumber : GoodIn wsX7_picture wsX7_asNumber := goodIn_r _ [28] (by decide +kernel) (by decide +kernel)
set_option maxRecDepth 20000 in
theorem gX7_picture_X7_asNumber : GoodIn wsX7_picture (va_wsS RX7 165 yX7_asNumber wsX7_asNumber) := goodIn_app (goodIn_of _ (by decide +kernel)) ggX7_picture_X7_asNumber
set_option maxRecDepth 20000 in
theorem ggX7_picture_X4_makeFor : GoodIn wsX7_picture wsX4_makeFor := goodIn_r _ [33, 34, 35, 36, 37, 38, 39, 40, 41, 42, 43, 44, 45, 46, 12, 47, 14, 48, 49, 50, 51, 52, 53, 54, 32, 55, 56, 10, 11, 13, 15, 16, 17, 18, 57, 20, 21, 6, 22, 23, 24, 58, 59, 60, 61, 62, 63, 64, 65, 66, 67, 68, 69, 70, 85, 86, 87, 88, 89, 90, 91, 92, 93, 94, 95, 96, 97, 98, 99, 100, 101, 102, 103, 105, 106, 107, 108, 104] (by decide +kernel) (by decide +kernel)
set_option maxRecDepth 20000 in
theorem gX7_picture_X4_makeFor : GoodIn wsX7_picture (wsV RX7 169 RX4 yX4_makeFor wsX4_makeFor) := goodIn_app (goodIn_of _ (by decide +kernel)) ggX7_picture_X4_makeFor
set_option maxRecDepth 20000 in
theorem ggX7_picture_X4_isSpare : GoodIn wsX7_picture wsX4_isSpare := goodIn_r _ [74, 37, 36, 56, 10, 11, 12, 13, 14, 15, 16, 17, 18, 100, 101, 102, 103, 104] (by decide +kernel) (by decide +kernel)
set_option maxRecDepth 20000 in
theorem gX7_picture_X4_isSpare : GoodIn wsX7_picture (wsV RX7 197 RX4 yX4_isSpare wsX4_isSpare) := goodIn_app (goodIn_of _ (by decide +kernel)) ggX7_picture_X4_isSpare
set_option maxRecDepth 20000 in
theorem ggX7_picture_X7_isRightPage : GoodIn wsX7_picture wsX7_isRightPage := goodIn_r _ [77] (by decide +kernel) (by decide +kernel)
set_option maxRecDepth 20000 in
theorem gX7_picture_X7_isRightPage : GoodIn wsX7_picture (va_wsS RX7 200 yX7_isRightPage wsX7_isRightPage) := goodIn_app (goodIn_of _ (by decide +kernel)) ggX7_picture_X7_isRightPage
theorem dX7_picture_0 : decode cX7_picture 0 = .ok (.aload_n 0, 1) := by decide +kernel
theorem dX7_picture_1 : decode cX7_picture 1 = .ok (.getfield 10, 3) := by decide +kernel
theorem dX7_picture_4 : decode cX7_picture 4 = .ok (.getfield 119, 3) := by decide +kernel
theorem dX7_picture_7 : decode cX7_picture 7 = .ok (.astore_n 3, 1) := by decide +kernel
theorem dX7_picture_8 : decode cX7_picture 8 = .ok (.aload_n 3, 1) := by decide +kernel
theorem dX7_picture_9 : decode cX7_picture 9 = .ok (.iload_n 1, 1) := by decide +kernel
theorem dX7_picture_10 : decode cX7_picture 10 = .ok (.invokevirtual 123, 3) := by decide +kernel
theorem dX7_picture_13 : decode cX7_picture 13 = .ok (.ifCond .ne 5, 3) := by decide +kernel
theorem dX7_picture_16 : decode cX7_picture 16 = .ok (.iconst (-1), 1) := by decide +kernel
theorem dX7_picture_17 : decode cX7_picture 17 = .ok (.ireturn, 1) := by decide +kernel
theorem dX7_picture_18 : decode cX7_picture 18 = .ok (.iload_n 2, 1) := by decide +kernel
theorem dX7_picture_19 : decode cX7_picture 19 = .ok (.tableswitch 138 0 6 #[41, 50, 59, 68, 91, 114, 129], 41) := by decide +kernel
theorem dX7_picture_60 : decode cX7_picture 60 = .ok (.aload_n 3, 1) := by decide +kernel
theorem dX7_picture_61 : decode cX7_picture 61 = .ok (.getfield 185, 3) := by decide +kernel
theorem dX7_picture_64 : decode cX7_picture 64 = .ok (.iload_n 1, 1) := by decide +kernel
theorem dX7_picture_65 : decode cX7_picture 65 = .ok (.invokevirtual 84, 3) := by decide +kernel
theorem dX7_picture_68 : decode cX7_picture 68 = .ok (.ireturn, 1) := by decide +kernel
theorem dX7_picture_69 : decode cX7_picture 69 = .ok (.aload_n 3, 1) := by decide +kernel
theorem dX7_picture_70 : decode cX7_picture 70 = .ok (.getfield 188, 3) := by decide +kernel
theorem dX7_picture_73 : decode cX7_picture 73 = .ok (.iload_n 1, 1) := by decide +kernel
theorem dX7_picture_74 : decode cX7_picture 74 = .ok (.invokevirtual 84, 3) := by decide +kernel
theorem dX7_picture_77 : decode cX7_picture 77 = .ok (.ireturn, 1) := by decide +kernel
theorem dX7_picture_78 : decode cX7_picture 78 = .ok (.aload_n 3, 1) := by decide +kernel
theorem dX7_picture_79 : decode cX7_picture 79 = .ok (.iload_n 1, 1) := by decide +kernel
theorem dX7_picture_80 : decode cX7_picture 80 = .ok (.invokevirtual 191, 3) := by decide +kernel
theorem dX7_picture_83 : decode cX7_picture 83 = .ok (.invokestatic 165, 3) := by decide +kernel
theorem dX7_picture_86 : decode cX7_picture 86 = .ok (.ireturn, 1) := by decide +kernel
theorem dX7_picture_87 : decode cX7_picture 87 = .ok (.aload_n 0, 1) := by decide +kernel
theorem dX7_picture_88 : decode cX7_picture 88 = .ok (.getfield 39, 3) := by decide +kernel
theorem dX7_picture_91 : decode cX7_picture 91 = .ok (.aload_n 0, 1) := by decide +kernel
theorem dX7_picture_92 : decode cX7_picture 92 = .ok (.getfield 10, 3) := by decide +kernel
theorem dX7_picture_95 : decode cX7_picture 95 = .ok (.invokevirtual 169, 3) := by decide +kernel
theorem dX7_picture_98 : decode cX7_picture 98 = .ok (.aload_n 0, 1) := by decide +kernel
theorem dX7_picture_99 : decode cX7_picture 99 = .ok (.getfield 39, 3) := by decide +kernel
theorem dX7_picture_102 : decode cX7_picture 102 = .ok (.getfield 194, 3) := by decide +kernel
theorem dX7_picture_105 : decode cX7_picture 105 = .ok (.iload_n 1, 1) := by decide +kernel
theorem dX7_picture_106 : decode cX7_picture 106 = .ok (.invokevirtual 84, 3) := by decide +kernel
theorem dX7_picture_109 : decode cX7_picture 109 = .ok (.ireturn, 1) := by decide +kernel
theorem dX7_picture_110 : decode cX7_picture 110 = .ok (.aload_n 0, 1) := by decide +kernel
theorem dX7_picture_111 : decode cX7_picture 111 = .ok (.getfield 39, 3) := by decide +kernel
theorem dX7_picture_114 : decode cX7_picture 114 = .ok (.aload_n 0, 1) := by decide +kernel
theorem dX7_picture_115 : decode cX7_picture 115 = .ok (.getfield 10, 3) := by decide +kernel
theorem dX7_picture_118 : decode cX7_picture 118 = .ok (.invokevirtual 169, 3) := by decide +kernel
theorem dX7_picture_121 : decode cX7_picture 121 = .ok (.aload_n 0, 1) := by decide +kernel
theorem dX7_picture_122 : decode cX7_picture 122 = .ok (.getfield 39, 3) := by decide +kernel
theorem dX7_picture_125 : decode cX7_picture 125 = .ok (.iload_n 1, 1) := by decide +kernel
theorem dX7_picture_126 : decode cX7_picture 126 = .ok (.invokevirtual 197, 3) := by decide +kernel
theorem dX7_picture_129 : decode cX7_picture 129 = .ok (.invokestatic 165, 3) := by decide +kernel
theorem dX7_picture_132 : decode cX7_picture 132 = .ok (.ireturn, 1) := by decide +kernel
theorem dX7_picture_133 : decode cX7_picture 133 = .ok (.aload_n 3, 1) := by decide +kernel
theorem dX7_picture_134 : decode cX7_picture 134 = .ok (.getfield 185, 3) := by decide +kernel
theorem dX7_picture_137 : decode cX7_picture 137 = .ok (.iload_n 1, 1) := by decide +kernel
theorem dX7_picture_138 : decode cX7_picture 138 = .ok (.invokevirtual 84, 3) := by decide +kernel
theorem dX7_picture_141 : decode cX7_picture 141 = .ok (.invokestatic 200, 3) := by decide +kernel
theorem dX7_picture_144 : decode cX7_picture 144 = .ok (.invokestatic 165, 3) := by decide +kernel
theorem dX7_picture_147 : decode cX7_picture 147 = .ok (.ireturn, 1) := by decide +kernel
theorem dX7_picture_148 : decode cX7_picture 148 = .ok (.aload_n 3, 1) := by decide +kernel
theorem dX7_picture_149 : decode cX7_picture 149 = .ok (.getfield 203, 3) := by decide +kernel
theorem dX7_picture_152 : decode cX7_picture 152 = .ok (.iload_n 1, 1) := by decide +kernel
theorem dX7_picture_153 : decode cX7_picture 153 = .ok (.invokevirtual 84, 3) := by decide +kernel
theorem dX7_picture_156 : decode cX7_picture 156 = .ok (.ireturn, 1) := by decide +kernel
theorem dX7_picture_157 : decode cX7_picture 157 = .ok (.bipush (-2), 2) := by decide +kernel
theorem dX7_picture_159 : decode cX7_picture 159 = .ok (.ireturn, 1) := by decide +kernel
set_option maxRecDepth 20000 in
theorem ggX7_open_X6_openOnLeft : GoodIn wsX7_open wsX6_openOnLeft := goodIn_r _ [6, 7, 24, 25, 26, 27, 28, 29, 30, 31, 32, 33] (by decide +kernel) (by decide +kernel)
set_option maxRecDepth 20000 in
theorem gX7_open_X6_openOnLeft : GoodIn wsX7_open (wsV RX7 206 RX6 yX6_openOnLeft wsX6_openOnLeft) := goodIn_app (goodIn_of _ (by decide +kernel)) ggX7_open_X6_openOnLeft
set_option maxRecDepth 20000 in
theorem ggX7_open_X6_openOnRight : GoodIn wsX7_open wsX6_openOnRight := goodIn_r _ [11, 7, 12, 13, 14, 5, 15, 16, 24, 25, 26, 27, 28, 29, 30, 31, 32, 33, 34, 35, 36, 37] (by decide +kernel) (by decide +kernel)
set_option maxRecDepth 20000 in
theorem gX7_open_X6_openOnRight : GoodIn wsX7_open (wsV RX7 209 RX6 yX6_openOnRight wsX6_openOnRight) := goodIn_app (goodIn_of _ (by decide +kernel)) ggX7_open_X6_openOnRight
theorem dX7_open_0 : decode cX7_open 0 = .ok (.iload_n 1, 1) := by decide +kernel
theorem dX7_open_1 : decode cX7_open 1 = .ok (.ifCond .ne 11, 3) := by decide +kernel
theorem dX7_open_4 : decode cX7_open 4 = .ok (.aload_n 0, 1) := by decide +kernel
theorem dX7_open_5 : decode cX7_open 5 = .ok (.getfield 10, 3) := by decide +kernel
theorem dX7_open_8 : decode cX7_open 8 = .ok (.invokevirtual 206, 3) := by decide +kernel
theorem dX7_open_11 : decode cX7_open 11 = .ok (.ireturn, 1) := by decide +kernel
theorem dX7_open_12 : decode cX7_open 12 = .ok (.iload_n 1, 1) := by decide +kernel
theorem dX7_open_13 : decode cX7_open 13 = .ok (.iconst 1, 1) := by decide +kernel
theorem dX7_open_14 : decode cX7_open 14 = .ok (.if_icmp .ne 11, 3) := by decide +kernel
theorem dX7_open_17 : decode cX7_open 17 = .ok (.aload_n 0, 1) := by decide +kernel
theorem dX7_open_18 : decode cX7_open 18 = .ok (.getfield 10, 3) := by decide +kernel
theorem dX7_open_21 : decode cX7_open 21 = .ok (.invokevirtual 209, 3) := by decide +kernel
theorem dX7_open_24 : decode cX7_open 24 = .ok (.ireturn, 1) := by decide +kernel
theorem dX7_open_25 : decode cX7_open 25 = .ok (.bipush (-2), 2) := by decide +kernel
theorem dX7_open_27 : decode cX7_open 27 = .ok (.ireturn, 1) := by decide +kernel
set_option maxRecDepth 20000 in
theorem ggX7_would_X7_isSuction : GoodIn wsX7_would wsX7_isSuction := goodIn_r _ [5] (by decide +kernel) (by decide +kernel)
set_option maxRecDepth 20000 in
theorem gX7_would_X7_isSuction : GoodIn wsX7_would (va_wsS RX7 135 yX7_isSuction wsX7_isSuction) := goodIn_app (goodIn_of _ (by decide +kernel)) ggX7_would_X7_isSuction
set_option maxRecDepth 20000 in
theorem ggX7_would_X6_leavesOnRight : GoodIn wsX7_would wsX6_leavesOnRight := goodIn_r _ [10, 11, 12, 34, 35, 36, 37, 38, 39, 40, 41, 42, 43, 44, 45, 46, 47] (by decide +kernel) (by decide +kernel)
set_option maxRecDepth 20000 in
theorem gX7_would_X6_leavesOnRight : GoodIn wsX7_would (wsV RX7 94 RX6 yX6_leavesOnRight wsX6_leavesOnRight) := goodIn_app (goodIn_of _ (by decide +kernel)) ggX7_would_X6_leavesOnRight
set_option maxRecDepth 20000 in
theorem ggX7_would_X6_liftedBy : GoodIn wsX7_would wsX6_liftedBy := goodIn_r _ [16, 12, 11, 17, 18, 19, 20, 21, 22, 23, 24, 25, 26, 34, 35, 36, 37, 38, 39, 40, 41, 42, 43, 44, 45, 46, 47, 48] (by decide +kernel) (by decide +kernel)
set_option maxRecDepth 20000 in
theorem gX7_would_X6_liftedBy : GoodIn wsX7_would (wsV RX7 212 RX6 yX6_liftedBy wsX6_liftedBy) := goodIn_app (goodIn_of _ (by decide +kernel)) ggX7_would_X6_liftedBy
theorem dX7_would_0 : decode cX7_would 0 = .ok (.iload_n 1, 1) := by decide +kernel
theorem dX7_would_1 : decode cX7_would 1 = .ok (.invokestatic 135, 3) := by decide +kernel
theorem dX7_would_4 : decode cX7_would 4 = .ok (.ifCond .ne 6, 3) := by decide +kernel
theorem dX7_would_7 : decode cX7_would 7 = .ok (.bipush (-2), 2) := by decide +kernel
theorem dX7_would_9 : decode cX7_would 9 = .ok (.ireturn, 1) := by decide +kernel
theorem dX7_would_10 : decode cX7_would 10 = .ok (.aload_n 0, 1) := by decide +kernel
theorem dX7_would_11 : decode cX7_would 11 = .ok (.getfield 10, 3) := by decide +kernel
theorem dX7_would_14 : decode cX7_would 14 = .ok (.invokevirtual 94, 3) := by decide +kernel
theorem dX7_would_17 : decode cX7_would 17 = .ok (.ifCond .ne 6, 3) := by decide +kernel
theorem dX7_would_20 : decode cX7_would 20 = .ok (.bipush (-4), 2) := by decide +kernel
theorem dX7_would_22 : decode cX7_would 22 = .ok (.ireturn, 1) := by decide +kernel
theorem dX7_would_23 : decode cX7_would 23 = .ok (.aload_n 0, 1) := by decide +kernel
theorem dX7_would_24 : decode cX7_would 24 = .ok (.getfield 10, 3) := by decide +kernel
theorem dX7_would_27 : decode cX7_would 27 = .ok (.iload_n 1, 1) := by decide +kernel
theorem dX7_would_28 : decode cX7_would 28 = .ok (.invokevirtual 212, 3) := by decide +kernel
theorem dX7_would_31 : decode cX7_would 31 = .ok (.ireturn, 1) := by decide +kernel
set_option maxRecDepth 20000 in
theorem ggX7_best_X6_leavesOnRight : GoodIn wsX7_best wsX6_leavesOnRight := goodIn_r _ [6, 7, 8, 30, 31, 32, 33, 34, 35, 36, 37, 38, 39, 40, 41, 42, 43] (by decide +kernel) (by decide +kernel)
set_option maxRecDepth 20000 in
theorem gX7_best_X6_leavesOnRight : GoodIn wsX7_best (wsV RX7 94 RX6 yX6_leavesOnRight wsX6_leavesOnRight) := goodIn_app (goodIn_of _ (by decide +kernel)) ggX7_best_X6_leavesOnRight
set_option maxRecDepth 20000 in
theorem ggX7_best_X6_liftedBy : GoodIn wsX7_best wsX6_liftedBy := goodIn_r _ [12, 8, 7, 13, 14, 15, 16, 17, 18, 19, 20, 21, 22, 30, 31, 32, 33, 34, 35, 36, 37, 38, 39, 40, 41, 42, 43, 44] (by decide +kernel) (by decide +kernel)
set_option maxRecDepth 20000 in
theorem gX7_best_X6_liftedBy : GoodIn wsX7_best (wsV RX7 212 RX6 yX6_liftedBy wsX6_liftedBy) := goodIn_app (goodIn_of _ (by decide +kernel)) ggX7_best_X6_liftedBy
theorem dX7_best_0 : decode cX7_best 0 = .ok (.aload_n 0, 1) := by decide +kernel
theorem dX7_best_1 : decode cX7_best 1 = .ok (.getfield 10, 3) := by decide +kernel
theorem dX7_best_4 : decode cX7_best 4 = .ok (.invokevirtual 94, 3) := by decide +kernel
theorem dX7_best_7 : decode cX7_best 7 = .ok (.ifCond .ne 6, 3) := by decide +kernel
theorem dX7_best_10 : decode cX7_best 10 = .ok (.bipush (-4), 2) := by decide +kernel
theorem dX7_best_12 : decode cX7_best 12 = .ok (.ireturn, 1) := by decide +kernel
theorem dX7_best_13 : decode cX7_best 13 = .ok (.iconst 1, 1) := by decide +kernel
theorem dX7_best_14 : decode cX7_best 14 = .ok (.istore_n 1, 1) := by decide +kernel
theorem dX7_best_15 : decode cX7_best 15 = .ok (.iload_n 1, 1) := by decide +kernel
theorem dX7_best_16 : decode cX7_best 16 = .ok (.bipush 20, 2) := by decide +kernel
theorem dX7_best_18 : decode cX7_best 18 = .ok (.if_icmp .gt 23, 3) := by decide +kernel
theorem dX7_best_21 : decode cX7_best 21 = .ok (.aload_n 0, 1) := by decide +kernel
theorem dX7_best_22 : decode cX7_best 22 = .ok (.getfield 10, 3) := by decide +kernel
theorem dX7_best_25 : decode cX7_best 25 = .ok (.iload_n 1, 1) := by decide +kernel
theorem dX7_best_26 : decode cX7_best 26 = .ok (.invokevirtual 212, 3) := by decide +kernel
theorem dX7_best_29 : decode cX7_best 29 = .ok (.iconst 1, 1) := by decide +kernel
theorem dX7_best_30 : decode cX7_best 30 = .ok (.if_icmp .ne 5, 3) := by decide +kernel
theorem dX7_best_33 : decode cX7_best 33 = .ok (.iload_n 1, 1) := by decide +kernel
theorem dX7_best_34 : decode cX7_best 34 = .ok (.ireturn, 1) := by decide +kernel
theorem dX7_best_35 : decode cX7_best 35 = .ok (.iinc 1 1, 3) := by decide +kernel
theorem dX7_best_38 : decode cX7_best 38 = .ok (.goto (-23), 3) := by decide +kernel
theorem dX7_best_41 : decode cX7_best 41 = .ok (.bipush (-5), 2) := by decide +kernel
theorem dX7_best_43 : decode cX7_best 43 = .ok (.ireturn, 1) := by decide +kernel
set_option maxRecDepth 20000 in
theorem ggX7_lacking_X4_makeFor : GoodIn wsX7_lacking wsX4_makeFor := goodIn_r _ [7, 8, 9, 10, 11, 12, 13, 14, 15, 16, 17, 18, 19, 20, 21, 22, 23, 24, 25, 26, 27, 28, 29, 30, 6, 31, 32, 33, 34, 35, 36, 37, 38, 39, 40, 41, 42, 43, 44, 45, 46, 47, 48, 49, 50, 51, 52, 53, 54, 55, 56, 57, 58, 59, 71, 72, 73, 74, 75, 76, 77, 78, 79, 80, 81, 82, 83, 84, 85, 86, 87, 88, 89, 90, 91, 92, 93, 94] (by decide +kernel) (by decide +kernel)
set_option maxRecDepth 20000 in
theorem gX7_lacking_X4_makeFor : GoodIn wsX7_lacking (wsV RX7 169 RX4 yX4_makeFor wsX4_makeFor) := goodIn_app (goodIn_of _ (by decide +kernel)) ggX7_lacking_X4_makeFor
set_option maxRecDepth 20000 in
theorem ggX7_lacking_X4_lackingAt : GoodIn wsX7_lacking wsX4_lackingAt := goodIn_r _ [63, 9, 10, 32, 33, 34, 21, 35, 23, 36, 37, 38, 39, 86, 87, 88, 89, 94] (by decide +kernel) (by decide +kernel)
set_option maxRecDepth 20000 in
theorem gX7_lacking_X4_lackingAt : GoodIn wsX7_lacking (wsV RX7 215 RX4 yX4_lackingAt wsX4_lackingAt) := goodIn_app (goodIn_of _ (by decide +kernel)) ggX7_lacking_X4_lackingAt
theorem dX7_lacking_0 : decode cX7_lacking 0 = .ok (.iload_n 1, 1) := by decide +kernel
theorem dX7_lacking_1 : decode cX7_lacking 1 = .ok (.ifCond .ge 6, 3) := by decide +kernel
theorem dX7_lacking_4 : decode cX7_lacking 4 = .ok (.bipush (-2), 2) := by decide +kernel
theorem dX7_lacking_6 : decode cX7_lacking 6 = .ok (.ireturn, 1) := by decide +kernel
theorem dX7_lacking_7 : decode cX7_lacking 7 = .ok (.aload_n 0, 1) := by decide +kernel
theorem dX7_lacking_8 : decode cX7_lacking 8 = .ok (.getfield 39, 3) := by decide +kernel
theorem dX7_lacking_11 : decode cX7_lacking 11 = .ok (.aload_n 0, 1) := by decide +kernel
theorem dX7_lacking_12 : decode cX7_lacking 12 = .ok (.getfield 10, 3) := by decide +kernel
theorem dX7_lacking_15 : decode cX7_lacking 15 = .ok (.invokevirtual 169, 3) := by decide +kernel
theorem dX7_lacking_18 : decode cX7_lacking 18 = .ok (.aload_n 0, 1) := by decide +kernel
theorem dX7_lacking_19 : decode cX7_lacking 19 = .ok (.getfield 39, 3) := by decide +kernel
theorem dX7_lacking_22 : decode cX7_lacking 22 = .ok (.iload_n 1, 1) := by decide +kernel
theorem dX7_lacking_23 : decode cX7_lacking 23 = .ok (.invokevirtual 215, 3) := by decide +kernel
theorem dX7_lacking_26 : decode cX7_lacking 26 = .ok (.ireturn, 1) := by decide +kernel
set_option maxRecDepth 20000 in
theorem ggX7_count_X7_countInSet : GoodIn wsX7_count wsX7_countInSet := goodIn_r _ [8, 9, 1, 10, 11, 12, 13, 14, 15, 16, 17, 18, 19, 20, 21, 22, 23, 24, 25, 26, 27, 28, 29, 30, 31, 32, 33, 34, 35, 36, 37, 38, 39, 40, 41, 42, 43, 44, 45, 46, 47, 48, 49, 50, 51, 52, 53, 54, 55, 56, 57, 58, 59, 60, 61, 62, 63, 64, 65, 66, 67, 68, 69, 70, 71, 72, 73, 74, 75, 76, 77, 78, 79, 80, 81, 82, 83, 84, 85, 86, 87, 88, 89, 90, 92, 93, 94, 95, 96, 97, 98, 99, 100, 101, 102, 103, 104, 105, 106, 107, 108, 113, 114, 115, 116, 117, 122, 123, 124, 125, 109, 110, 111, 112, 126] (by decide +kernel) (by decide +kernel)
set_option maxRecDepth 20000 in
theorem gX7_count_X7_countInSet : GoodIn wsX7_count (wsV RX7 218 RX7 yX7_countInSet wsX7_countInSet) := goodIn_app (goodIn_of _ (by decide +kernel)) ggX7_count_X7_countInSet
set_option maxRecDepth 20000 in
theorem ggX7_count_X3_at : GoodIn wsX7_count wsX3_at := goodIn_r _ [42, 30, 43, 44, 45, 28, 46, 126] (by decide +kernel) (by decide +kernel)
set_option maxRecDepth 20000 in
theorem gX7_count_X3_at : GoodIn wsX7_count (wsV RX7 84 RX3 yX3_at wsX3_at) := goodIn_app (goodIn_of _ (by decide +kernel)) ggX7_count_X3_at
theorem dX7_count_0 : decode cX7_count 0 = .ok (.iload_n 1, 1) := by decide +kernel
theorem dX7_count_1 : decode cX7_count 1 = .ok (.tableswitch 211 0 16 #[83, 94, 102, 113, 113, 113, 113, 119, 127, 135, 143, 151, 163, 175, 187, 195, 203], 83) := by decide +kernel
theorem dX7_count_84 : decode cX7_count 84 = .ok (.aload_n 0, 1) := by decide +kernel
theorem dX7_count_85 : decode cX7_count 85 = .ok (.getfield 10, 3) := by decide +kernel
theorem dX7_count_88 : decode cX7_count 88 = .ok (.getfield 47, 3) := by decide +kernel
theorem dX7_count_91 : decode cX7_count 91 = .ok (.getfield 68, 3) := by decide +kernel
theorem dX7_count_94 : decode cX7_count 94 = .ok (.ireturn, 1) := by decide +kernel
theorem dX7_count_95 : decode cX7_count 95 = .ok (.aload_n 0, 1) := by decide +kernel
theorem dX7_count_96 : decode cX7_count 96 = .ok (.getfield 10, 3) := by decide +kernel
theorem dX7_count_99 : decode cX7_count 99 = .ok (.getfield 101, 3) := by decide +kernel
theorem dX7_count_102 : decode cX7_count 102 = .ok (.ireturn, 1) := by decide +kernel
theorem dX7_count_103 : decode cX7_count 103 = .ok (.aload_n 0, 1) := by decide +kernel
theorem dX7_count_104 : decode cX7_count 104 = .ok (.getfield 10, 3) := by decide +kernel
theorem dX7_count_107 : decode cX7_count 107 = .ok (.getfield 119, 3) := by decide +kernel
theorem dX7_count_110 : decode cX7_count 110 = .ok (.getfield 132, 3) := by decide +kernel
theorem dX7_count_113 : decode cX7_count 113 = .ok (.ireturn, 1) := by decide +kernel
theorem dX7_count_114 : decode cX7_count 114 = .ok (.aload_n 0, 1) := by decide +kernel
theorem dX7_count_115 : decode cX7_count 115 = .ok (.iload_n 1, 1) := by decide +kernel
theorem dX7_count_116 : decode cX7_count 116 = .ok (.invokevirtual 218, 3) := by decide +kernel
theorem dX7_count_119 : decode cX7_count 119 = .ok (.ireturn, 1) := by decide +kernel
theorem dX7_count_120 : decode cX7_count 120 = .ok (.aload_n 0, 1) := by decide +kernel
theorem dX7_count_121 : decode cX7_count 121 = .ok (.getfield 10, 3) := by decide +kernel
theorem dX7_count_124 : decode cX7_count 124 = .ok (.getfield 221, 3) := by decide +kernel
theorem dX7_count_127 : decode cX7_count 127 = .ok (.ireturn, 1) := by decide +kernel
theorem dX7_count_128 : decode cX7_count 128 = .ok (.aload_n 0, 1) := by decide +kernel
theorem dX7_count_129 : decode cX7_count 129 = .ok (.getfield 10, 3) := by decide +kernel
theorem dX7_count_132 : decode cX7_count 132 = .ok (.getfield 224, 3) := by decide +kernel
theorem dX7_count_135 : decode cX7_count 135 = .ok (.ireturn, 1) := by decide +kernel
theorem dX7_count_136 : decode cX7_count 136 = .ok (.aload_n 0, 1) := by decide +kernel
theorem dX7_count_137 : decode cX7_count 137 = .ok (.getfield 10, 3) := by decide +kernel
theorem dX7_count_140 : decode cX7_count 140 = .ok (.getfield 227, 3) := by decide +kernel
theorem dX7_count_143 : decode cX7_count 143 = .ok (.ireturn, 1) := by decide +kernel
theorem dX7_count_144 : decode cX7_count 144 = .ok (.aload_n 0, 1) := by decide +kernel
theorem dX7_count_145 : decode cX7_count 145 = .ok (.getfield 10, 3) := by decide +kernel
theorem dX7_count_148 : decode cX7_count 148 = .ok (.getfield 138, 3) := by decide +kernel
theorem dX7_count_151 : decode cX7_count 151 = .ok (.ireturn, 1) := by decide +kernel
theorem dX7_count_152 : decode cX7_count 152 = .ok (.aload_n 0, 1) := by decide +kernel
theorem dX7_count_153 : decode cX7_count 153 = .ok (.getfield 10, 3) := by decide +kernel
theorem dX7_count_156 : decode cX7_count 156 = .ok (.getfield 145, 3) := by decide +kernel
theorem dX7_count_159 : decode cX7_count 159 = .ok (.iconst 0, 1) := by decide +kernel
theorem dX7_count_160 : decode cX7_count 160 = .ok (.invokevirtual 84, 3) := by decide +kernel
theorem dX7_count_163 : decode cX7_count 163 = .ok (.ireturn, 1) := by decide +kernel
theorem dX7_count_164 : decode cX7_count 164 = .ok (.aload_n 0, 1) := by decide +kernel
theorem dX7_count_165 : decode cX7_count 165 = .ok (.getfield 10, 3) := by decide +kernel
theorem dX7_count_168 : decode cX7_count 168 = .ok (.getfield 145, 3) := by decide +kernel
theorem dX7_count_171 : decode cX7_count 171 = .ok (.iconst 1, 1) := by decide +kernel
theorem dX7_count_172 : decode cX7_count 172 = .ok (.invokevirtual 84, 3) := by decide +kernel
theorem dX7_count_175 : decode cX7_count 175 = .ok (.ireturn, 1) := by decide +kernel
theorem dX7_count_176 : decode cX7_count 176 = .ok (.aload_n 0, 1) := by decide +kernel
theorem dX7_count_177 : decode cX7_count 177 = .ok (.getfield 10, 3) := by decide +kernel
theorem dX7_count_180 : decode cX7_count 180 = .ok (.getfield 145, 3) := by decide +kernel
theorem dX7_count_183 : decode cX7_count 183 = .ok (.iconst 2, 1) := by decide +kernel
theorem dX7_count_184 : decode cX7_count 184 = .ok (.invokevirtual 84, 3) := by decide +kernel
theorem dX7_count_187 : decode cX7_count 187 = .ok (.ireturn, 1) := by decide +kernel
theorem dX7_count_188 : decode cX7_count 188 = .ok (.aload_n 0, 1) := by decide +kernel
theorem dX7_count_189 : decode cX7_count 189 = .ok (.getfield 10, 3) := by decide +kernel
theorem dX7_count_192 : decode cX7_count 192 = .ok (.getfield 230, 3) := by decide +kernel
theorem dX7_count_195 : decode cX7_count 195 = .ok (.ireturn, 1) := by decide +kernel
theorem dX7_count_196 : decode cX7_count 196 = .ok (.aload_n 0, 1) := by decide +kernel
theorem dX7_count_197 : decode cX7_count 197 = .ok (.getfield 25, 3) := by decide +kernel
theorem dX7_count_200 : decode cX7_count 200 = .ok (.getfield 155, 3) := by decide +kernel
theorem dX7_count_203 : decode cX7_count 203 = .ok (.ireturn, 1) := by decide +kernel
theorem dX7_count_204 : decode cX7_count 204 = .ok (.aload_n 0, 1) := by decide +kernel
theorem dX7_count_205 : decode cX7_count 205 = .ok (.getfield 32, 3) := by decide +kernel
theorem dX7_count_208 : decode cX7_count 208 = .ok (.getfield 148, 3) := by decide +kernel
theorem dX7_count_211 : decode cX7_count 211 = .ok (.ireturn, 1) := by decide +kernel
theorem dX7_count_212 : decode cX7_count 212 = .ok (.bipush (-2), 2) := by decide +kernel
theorem dX7_count_214 : decode cX7_count 214 = .ok (.ireturn, 1) := by decide +kernel
set_option maxRecDepth 20000 in
theorem ggX7_countInSet_X4_makeFor : GoodIn wsX7_countInSet wsX4_makeFor := goodIn_r _ [7, 8, 9, 10, 11, 12, 13, 14, 15, 16, 17, 18, 19, 20, 21, 22, 23, 24, 25, 26, 27, 28, 29, 30, 6, 31, 32, 33, 34, 35, 36, 37, 38, 39, 40, 41, 42, 43, 44, 45, 46, 47, 48, 49, 50, 51, 52, 53, 54, 55, 56, 57, 58, 59, 91, 92, 93, 94, 95, 96, 97, 98, 99, 100, 101, 102, 103, 104, 105, 106, 107, 108, 109, 110, 111, 112, 113, 114] (by decide +kernel) (by decide +kernel)
set_option maxRecDepth 20000 in
theorem gX7_countInSet_X4_makeFor : GoodIn wsX7_countInSet (wsV RX7 169 RX4 yX4_makeFor wsX4_makeFor) := goodIn_app (goodIn_of _ (by decide +kernel)) ggX7_countInSet_X4_makeFor
set_option maxRecDepth 20000 in
theorem ggX7_countInSet_X4_howManyLack : GoodIn wsX7_countInSet wsX4_howManyLack := goodIn_r _ [63, 9, 10, 32, 33, 34, 21, 35, 23, 36, 37, 38, 39, 106, 107, 108, 109, 114] (by decide +kernel) (by decide +kernel)
set_option maxRecDepth 20000 in
theorem gX7_countInSet_X4_howManyLack : GoodIn wsX7_countInSet (wsV RX7 232 RX4 yX4_howManyLack wsX4_howManyLack) := goodIn_app (goodIn_of _ (by decide +kernel)) ggX7_countInSet_X4_howManyLack
set_option maxRecDepth 20000 in
theorem ggX7_countInSet_X4_howManyDoubtful : GoodIn wsX7_countInSet wsX4_howManyDoubtful := goodIn_r _ [67, 9, 68, 69, 70, 6, 71, 10, 32, 33, 34, 21, 35, 23, 36, 37, 38, 39, 106, 107, 108, 109, 101, 102, 103, 104, 105, 114] (by decide +kernel) (by decide +kernel)
set_option maxRecDepth 20000 in
theorem gX7_countInSet_X4_howManyDoubtful : GoodIn wsX7_countInSet (wsV RX7 235 RX4 yX4_howManyDoubtful wsX4_howManyDoubtful) := goodIn_app (goodIn_of _ (by decide +kernel)) ggX7_countInSet_X4_howManyDoubtful
set_option maxRecDepth 20000 in
theorem ggX7_countInSet_X4_howManySpare : GoodIn wsX7_countInSet wsX4_howManySpare := goodIn_r _ [75, 8, 76, 77, 78, 6, 79, 11, 10, 32, 33, 34, 21, 35, 23, 36, 37, 38, 39, 106, 107, 108, 109, 114] (by decide +kernel) (by decide +kernel)
set_option maxRecDepth 20000 in
theorem gX7_countInSet_X4_howManySpare : GoodIn wsX7_countInSet (wsV RX7 239 RX4 yX4_howManySpare wsX4_howManySpare) := goodIn_app (goodIn_of _ (by decide +kernel)) ggX7_countInSet_X4_howManySpare
set_option maxRecDepth 20000 in
theorem ggX7_countInSet_X4_howManyNotGuessed : GoodIn wsX7_countInSet wsX4_howManyNotGuessed := goodIn_r _ [83, 8, 11, 32, 33, 34, 21, 35, 23, 36, 37, 38, 39, 106, 107, 108, 109, 114] (by decide +kernel) (by decide +kernel)
set_option maxRecDepth 20000 in
theorem gX7_countInSet_X4_howManyNotGuessed : GoodIn wsX7_countInSet (wsV RX7 242 RX4 yX4_howManyNotGuessed wsX4_howManyNotGuessed) := goodIn_app (goodIn_of _ (by decide +kernel)) ggX7_countInSet_X4_howManyNotGuessed
theorem dX7_countInSet_0 : decode cX7_countInSet 0 = .ok (.aload_n 0, 1) := by decide +kernel
theorem dX7_countInSet_1 : decode cX7_countInSet 1 = .ok (.getfield 39, 3) := by decide +kernel
theorem dX7_countInSet_4 : decode cX7_countInSet 4 = .ok (.aload_n 0, 1) := by decide +kernel
theorem dX7_countInSet_5 : decode cX7_countInSet 5 = .ok (.getfield 10, 3) := by decide +kernel
theorem dX7_countInSet_8 : decode cX7_countInSet 8 = .ok (.invokevirtual 169, 3) := by decide +kernel
theorem dX7_countInSet_11 : decode cX7_countInSet 11 = .ok (.iload_n 1, 1) := by decide +kernel
theorem dX7_countInSet_12 : decode cX7_countInSet 12 = .ok (.tableswitch 71 3 6 #[32, 40, 55, 63], 32) := by decide +kernel
theorem dX7_countInSet_44 : decode cX7_countInSet 44 = .ok (.aload_n 0, 1) := by decide +kernel
theorem dX7_countInSet_45 : decode cX7_countInSet 45 = .ok (.getfield 39, 3) := by decide +kernel
theorem dX7_countInSet_48 : decode cX7_countInSet 48 = .ok (.invokevirtual 232, 3) := by decide +kernel
theorem dX7_countInSet_51 : decode cX7_countInSet 51 = .ok (.ireturn, 1) := by decide +kernel
theorem dX7_countInSet_52 : decode cX7_countInSet 52 = .ok (.aload_n 0, 1) := by decide +kernel
theorem dX7_countInSet_53 : decode cX7_countInSet 53 = .ok (.getfield 39, 3) := by decide +kernel
theorem dX7_countInSet_56 : decode cX7_countInSet 56 = .ok (.aload_n 0, 1) := by decide +kernel
theorem dX7_countInSet_57 : decode cX7_countInSet 57 = .ok (.getfield 10, 3) := by decide +kernel
theorem dX7_countInSet_60 : decode cX7_countInSet 60 = .ok (.getfield 119, 3) := by decide +kernel
theorem dX7_countInSet_63 : decode cX7_countInSet 63 = .ok (.invokevirtual 235, 3) := by decide +kernel
theorem dX7_countInSet_66 : decode cX7_countInSet 66 = .ok (.ireturn, 1) := by decide +kernel
theorem dX7_countInSet_67 : decode cX7_countInSet 67 = .ok (.aload_n 0, 1) := by decide +kernel
theorem dX7_countInSet_68 : decode cX7_countInSet 68 = .ok (.getfield 39, 3) := by decide +kernel
theorem dX7_countInSet_71 : decode cX7_countInSet 71 = .ok (.invokevirtual 239, 3) := by decide +kernel
theorem dX7_countInSet_74 : decode cX7_countInSet 74 = .ok (.ireturn, 1) := by decide +kernel
theorem dX7_countInSet_75 : decode cX7_countInSet 75 = .ok (.aload_n 0, 1) := by decide +kernel
theorem dX7_countInSet_76 : decode cX7_countInSet 76 = .ok (.getfield 39, 3) := by decide +kernel
theorem dX7_countInSet_79 : decode cX7_countInSet 79 = .ok (.invokevirtual 242, 3) := by decide +kernel
theorem dX7_countInSet_82 : decode cX7_countInSet 82 = .ok (.ireturn, 1) := by decide +kernel
theorem dX7_countInSet_83 : decode cX7_countInSet 83 = .ok (.bipush (-2), 2) := by decide +kernel
theorem dX7_countInSet_85 : decode cX7_countInSet 85 = .ok (.ireturn, 1) := by decide +kernel
theorem dX7_isSuction_0 : decode cX7_isSuction 0 = .ok (.iload_n 0, 1) := by decide +kernel
theorem dX7_isSuction_1 : decode cX7_isSuction 1 = .ok (.iconst 1, 1) := by decide +kernel
theorem dX7_isSuction_2 : decode cX7_isSuction 2 = .ok (.if_icmp .lt 13, 3) := by decide +kernel
theorem dX7_isSuction_5 : decode cX7_isSuction 5 = .ok (.iload_n 0, 1) := by decide +kernel
theorem dX7_isSuction_6 : decode cX7_isSuction 6 = .ok (.bipush 20, 2) := by decide +kernel
theorem dX7_isSuction_8 : decode cX7_isSuction 8 = .ok (.if_icmp .gt 7, 3) := by decide +kernel
theorem dX7_isSuction_11 : decode cX7_isSuction 11 = .ok (.iconst 1, 1) := by decide +kernel
theorem dX7_isSuction_12 : decode cX7_isSuction 12 = .ok (.goto 4, 3) := by decide +kernel
theorem dX7_isSuction_15 : decode cX7_isSuction 15 = .ok (.iconst 0, 1) := by decide +kernel
theorem dX7_isSuction_16 : decode cX7_isSuction 16 = .ok (.ireturn, 1) := by decide +kernel
theorem dX7_isRightPage_0 : decode cX7_isRightPage 0 = .ok (.iload_n 0, 1) := by decide +kernel
theorem dX7_isRightPage_1 : decode cX7_isRightPage 1 = .ok (.iconst 2, 1) := by decide +kernel
theorem dX7_isRightPage_2 : decode cX7_isRightPage 2 = .ok (.irem, 1) := by decide +kernel
theorem dX7_isRightPage_3 : decode cX7_isRightPage 3 = .ok (.ifCond .ne 7, 3) := by decide +kernel
theorem dX7_isRightPage_6 : decode cX7_isRightPage 6 = .ok (.iconst 1, 1) := by decide +kernel
theorem dX7_isRightPage_7 : decode cX7_isRightPage 7 = .ok (.goto 4, 3) := by decide +kernel
theorem dX7_isRightPage_10 : decode cX7_isRightPage 10 = .ok (.iconst 0, 1) := by decide +kernel
theorem dX7_isRightPage_11 : decode cX7_isRightPage 11 = .ok (.ireturn, 1) := by decide +kernel
theorem dX7_asNumber_0 : decode cX7_asNumber 0 = .ok (.iload_n 0, 1) := by decide +kernel
theorem dX7_asNumber_1 : decode cX7_asNumber 1 = .ok (.ifCond .eq 7, 3) := by decide +kernel
theorem dX7_asNumber_4 : decode cX7_asNumber 4 = .ok (.iconst 1, 1) := by decide +kernel
theorem dX7_asNumber_5 : decode cX7_asNumber 5 = .ok (.goto 4, 3) := by decide +kernel
theorem dX7_asNumber_8 : decode cX7_asNumber 8 = .ok (.iconst 0, 1) := by decide +kernel
theorem dX7_asNumber_9 : decode cX7_asNumber 9 = .ok (.ireturn, 1) := by decide +kernel
theorem dJ9_max_7cf53_0 : decode cJ9_max_7cf53 0 = .ok (.iload_n 0, 1) := by decide +kernel
theorem dJ9_max_7cf53_1 : decode cJ9_max_7cf53 1 = .ok (.iload_n 1, 1) := by decide +kernel
theorem dJ9_max_7cf53_2 : decode cJ9_max_7cf53 2 = .ok (.if_icmp .lt 7, 3) := by decide +kernel
theorem dJ9_max_7cf53_5 : decode cJ9_max_7cf53 5 = .ok (.iload_n 0, 1) := by decide +kernel
theorem dJ9_max_7cf53_6 : decode cJ9_max_7cf53 6 = .ok (.goto 4, 3) := by decide +kernel
theorem dJ9_max_7cf53_9 : decode cJ9_max_7cf53 9 = .ok (.iload_n 1, 1) := by decide +kernel
theorem dJ9_max_7cf53_10 : decode cJ9_max_7cf53 10 = .ok (.ireturn, 1) := by decide +kernel
theorem dJ9_min_7cf53_0 : decode cJ9_min_7cf53 0 = .ok (.iload_n 0, 1) := by decide +kernel
theorem dJ9_min_7cf53_1 : decode cJ9_min_7cf53 1 = .ok (.iload_n 1, 1) := by decide +kernel
theorem dJ9_min_7cf53_2 : decode cJ9_min_7cf53 2 = .ok (.if_icmp .gt 7, 3) := by decide +kernel
theorem dJ9_min_7cf53_5 : decode cJ9_min_7cf53 5 = .ok (.iload_n 0, 1) := by decide +kernel
theorem dJ9_min_7cf53_6 : decode cJ9_min_7cf53 6 = .ok (.goto 4, 3) := by decide +kernel
theorem dJ9_min_7cf53_9 : decode cJ9_min_7cf53 9 = .ok (.iload_n 1, 1) := by decide +kernel
theorem dJ9_min_7cf53_10 : decode cJ9_min_7cf53 10 = .ok (.ireturn, 1) := by decide +kernel
theorem dJ7_fill_53178_0 : decode cJ7_fill_53178 0 = .ok (.iconst 0, 1) := by decide +kernel
theorem dJ7_fill_53178_1 : decode cJ7_fill_53178 1 = .ok (.istore_n 2, 1) := by decide +kernel
theorem dJ7_fill_53178_2 : decode cJ7_fill_53178 2 = .ok (.aload_n 0, 1) := by decide +kernel
theorem dJ7_fill_53178_3 : decode cJ7_fill_53178 3 = .ok (.arraylength, 1) := by decide +kernel
theorem dJ7_fill_53178_4 : decode cJ7_fill_53178 4 = .ok (.istore_n 3, 1) := by decide +kernel
theorem dJ7_fill_53178_5 : decode cJ7_fill_53178 5 = .ok (.iload_n 2, 1) := by decide +kernel
theorem dJ7_fill_53178_6 : decode cJ7_fill_53178 6 = .ok (.iload_n 3, 1) := by decide +kernel
theorem dJ7_fill_53178_7 : decode cJ7_fill_53178 7 = .ok (.if_icmp .ge 13, 3) := by decide +kernel
theorem dJ7_fill_53178_10 : decode cJ7_fill_53178 10 = .ok (.aload_n 0, 1) := by decide +kernel
theorem dJ7_fill_53178_11 : decode cJ7_fill_53178 11 = .ok (.iload_n 2, 1) := by decide +kernel
theorem dJ7_fill_53178_12 : decode cJ7_fill_53178 12 = .ok (.iload_n 1, 1) := by decide +kernel
theorem dJ7_fill_53178_13 : decode cJ7_fill_53178 13 = .ok (.iastore, 1) := by decide +kernel
theorem dJ7_fill_53178_14 : decode cJ7_fill_53178 14 = .ok (.iinc 2 1, 3) := by decide +kernel
theorem dJ7_fill_53178_17 : decode cJ7_fill_53178 17 = .ok (.goto (-12), 3) := by decide +kernel
theorem dJ7_fill_53178_20 : decode cJ7_fill_53178 20 = .ok (.return_, 1) := by decide +kernel
abbrev vwCl : List vw_C := [(RX0, TX0, 4), (RX1, TX1, 2), (RX2, TX2, 2), (RX3, TX3, 1), (RX4, TX4, 4), (RX5, TX5, 5), (RX6, TX6, 10), (RX7, TX7, 7)]
