set_option maxRecDepth 20000 in
theorem ggX7_init_X3_init : GoodIn wsX7_init wsX3_init := goodIn_r _ [31, 32, 2, 3, 33, 34, 35, 36, 37, 38, 39, 40, 41, 76, 77, 78] (by decide +kernel) (by decide +kernel)
set_option maxRecDepth 20000 in
theorem gX7_init_X3_init : GoodIn wsX7_init (wsX3_init) := ggX7_init_X3_init
set_option maxRecDepth 20000 in
theorem ggX7_init_X5_init : GoodIn wsX7_init wsX5_init := goodIn_r _ [43, 44, 2, 3, 33, 45, 46, 47, 48, 49, 50, 51, 52, 88, 89, 90, 108, 109] (by decide +kernel) (by decide +kernel)
set_option maxRecDepth 20000 in
theorem gX7_init_X5_init_n18 : GoodIn wsX7_init (wsX5_init) := ggX7_init_X5_init
set_option maxRecDepth 20000 in
theorem ggX7_init_X4_init : GoodIn wsX7_init wsX4_init := goodIn_r _ [54, 55, 2, 3, 33, 56, 57, 58, 59, 60, 91, 92, 93, 94, 95, 96, 97, 98, 99, 100] (by decide +kernel) (by decide +kernel)
set_option maxRecDepth 20000 in
theorem gX7_init_X4_init_n25 : GoodIn wsX7_init (wsX4_init) := ggX7_init_X4_init
set_option maxRecDepth 20000 in
theorem ggX7_init_X1_init : GoodIn wsX7_init wsX1_init := goodIn_r _ [62, 63, 2, 3, 64, 13, 14, 65, 53, 54, 55, 33, 56, 57, 58, 59, 60, 91, 92, 93, 94, 95, 96, 97, 98, 99, 100, 101, 102] (by decide +kernel) (by decide +kernel)
set_option maxRecDepth 20000 in
theorem gX7_init_X1_init_n32 : GoodIn wsX7_init (wsX1_init) := ggX7_init_X1_init
set_option maxRecDepth 20000 in
theorem ggX7_init_X0_init : GoodIn wsX7_init wsX0_init := goodIn_r _ [68, 69, 2, 3, 70, 71, 13, 14, 53, 54, 55, 33, 56, 57, 58, 59, 60, 103, 104, 105, 91, 92, 93, 94, 95, 96, 97, 98, 99, 100] (by decide +kernel) (by decide +kernel)
set_option maxRecDepth 20000 in
theorem gX7_init_X0_init : GoodIn wsX7_init (wsX0_init) := ggX7_init_X0_init
set_option maxRecDepth 20000 in
theorem ggX7_init_X6_init : GoodIn wsX7_init wsX6_init := goodIn_r _ [73, 74, 2, 3, 33, 75, 106, 107] (by decide +kernel) (by decide +kernel)
set_option maxRecDepth 20000 in
theorem gX7_init_X6_init_n50 : GoodIn wsX7_init (wsX6_init) := ggX7_init_X6_init
theorem dX7_init_0 : decode cX7_init 0 = .ok (.aload_n 0, 1) := by decide +kernel
theorem dX7_init_1 : decode cX7_init 1 = .ok (.invokespecial 1, 3) := by decide +kernel
theorem dX7_init_4 : decode cX7_init 4 = .ok (.aload_n 0, 1) := by decide +kernel
theorem dX7_init_5 : decode cX7_init 5 = .ok (.new 7, 3) := by decide +kernel
theorem dX7_init_8 : decode cX7_init 8 = .ok (.dup, 1) := by decide +kernel
theorem dX7_init_9 : decode cX7_init 9 = .ok (.invokespecial 9, 3) := by decide +kernel
theorem dX7_init_12 : decode cX7_init 12 = .ok (.putfield 10, 3) := by decide +kernel
theorem dX7_init_15 : decode cX7_init 15 = .ok (.aload_n 0, 1) := by decide +kernel
theorem dX7_init_16 : decode cX7_init 16 = .ok (.new 16, 3) := by decide +kernel
theorem dX7_init_19 : decode cX7_init 19 = .ok (.dup, 1) := by decide +kernel
theorem dX7_init_20 : decode cX7_init 20 = .ok (.invokespecial 18, 3) := by decide +kernel
theorem dX7_init_23 : decode cX7_init 23 = .ok (.putfield 19, 3) := by decide +kernel
theorem dX7_init_26 : decode cX7_init 26 = .ok (.aload_n 0, 1) := by decide +kernel
theorem dX7_init_27 : decode cX7_init 27 = .ok (.new 23, 3) := by decide +kernel
theorem dX7_init_30 : decode cX7_init 30 = .ok (.dup, 1) := by decide +kernel
theorem dX7_init_31 : decode cX7_init 31 = .ok (.invokespecial 25, 3) := by decide +kernel
theorem dX7_init_34 : decode cX7_init 34 = .ok (.putfield 26, 3) := by decide +kernel
theorem dX7_init_37 : decode cX7_init 37 = .ok (.aload_n 0, 1) := by decide +kernel
theorem dX7_init_38 : decode cX7_init 38 = .ok (.new 30, 3) := by decide +kernel
theorem dX7_init_41 : decode cX7_init 41 = .ok (.dup, 1) := by decide +kernel
theorem dX7_init_42 : decode cX7_init 42 = .ok (.invokespecial 32, 3) := by decide +kernel
theorem dX7_init_45 : decode cX7_init 45 = .ok (.putfield 33, 3) := by decide +kernel
theorem dX7_init_48 : decode cX7_init 48 = .ok (.aload_n 0, 1) := by decide +kernel
theorem dX7_init_49 : decode cX7_init 49 = .ok (.new 37, 3) := by decide +kernel
theorem dX7_init_52 : decode cX7_init 52 = .ok (.dup, 1) := by decide +kernel
theorem dX7_init_53 : decode cX7_init 53 = .ok (.invokespecial 39, 3) := by decide +kernel
theorem dX7_init_56 : decode cX7_init 56 = .ok (.putfield 40, 3) := by decide +kernel
theorem dX7_init_59 : decode cX7_init 59 = .ok (.aload_n 0, 1) := by decide +kernel
theorem dX7_init_60 : decode cX7_init 60 = .ok (.iconst 2, 1) := by decide +kernel
theorem dX7_init_61 : decode cX7_init 61 = .ok (.anewarray 23, 3) := by decide +kernel
theorem dX7_init_64 : decode cX7_init 64 = .ok (.putfield 44, 3) := by decide +kernel
theorem dX7_init_67 : decode cX7_init 67 = .ok (.aload_n 0, 1) := by decide +kernel
theorem dX7_init_68 : decode cX7_init 68 = .ok (.new 48, 3) := by decide +kernel
theorem dX7_init_71 : decode cX7_init 71 = .ok (.dup, 1) := by decide +kernel
theorem dX7_init_72 : decode cX7_init 72 = .ok (.invokespecial 50, 3) := by decide +kernel
theorem dX7_init_75 : decode cX7_init 75 = .ok (.putfield 51, 3) := by decide +kernel
theorem dX7_init_78 : decode cX7_init 78 = .ok (.iconst 0, 1) := by decide +kernel
theorem dX7_init_79 : decode cX7_init 79 = .ok (.istore_n 1, 1) := by decide +kernel
theorem dX7_init_80 : decode cX7_init 80 = .ok (.iload_n 1, 1) := by decide +kernel
theorem dX7_init_81 : decode cX7_init 81 = .ok (.iconst 2, 1) := by decide +kernel
theorem dX7_init_82 : decode cX7_init 82 = .ok (.if_icmp .ge 22, 3) := by decide +kernel
theorem dX7_init_85 : decode cX7_init 85 = .ok (.aload_n 0, 1) := by decide +kernel
theorem dX7_init_86 : decode cX7_init 86 = .ok (.getfield 44, 3) := by decide +kernel
theorem dX7_init_89 : decode cX7_init 89 = .ok (.iload_n 1, 1) := by decide +kernel
theorem dX7_init_90 : decode cX7_init 90 = .ok (.new 23, 3) := by decide +kernel
theorem dX7_init_93 : decode cX7_init 93 = .ok (.dup, 1) := by decide +kernel
theorem dX7_init_94 : decode cX7_init 94 = .ok (.invokespecial 25, 3) := by decide +kernel
theorem dX7_init_97 : decode cX7_init 97 = .ok (.aastore, 1) := by decide +kernel
theorem dX7_init_98 : decode cX7_init 98 = .ok (.iinc 1 1, 3) := by decide +kernel
theorem dX7_init_101 : decode cX7_init 101 = .ok (.goto (-21), 3) := by decide +kernel
theorem dX7_init_104 : decode cX7_init 104 = .ok (.return_, 1) := by decide +kernel
set_option maxRecDepth 20000 in
theorem ggX7_row_X7_isRow : GoodIn wsX7_row wsX7_isRow := goodIn_r _ [6] (by decide +kernel) (by decide +kernel)
set_option maxRecDepth 20000 in
theorem gX7_row_X7_isRow : GoodIn wsX7_row (va_wsS RX7 55 yX7_isRow wsX7_isRow) := goodIn_app (goodIn_of _ (by decide +kernel)) ggX7_row_X7_isRow
set_option maxRecDepth 20000 in
theorem ggX7_row_X7_isWithin : GoodIn wsX7_row wsX7_isWithin := goodIn_r _ [9] (by decide +kernel) (by decide +kernel)
set_option maxRecDepth 20000 in
theorem gX7_row_X7_isWithin : GoodIn wsX7_row (va_wsS RX7 59 yX7_isWithin wsX7_isWithin) := goodIn_app (goodIn_of _ (by decide +kernel)) ggX7_row_X7_isWithin
set_option maxRecDepth 20000 in
theorem ggX7_row_X7_found : GoodIn wsX7_row wsX7_found := goodIn_r _ [13, 14, 15, 32, 33, 34, 35, 36, 37, 38, 39, 40] (by decide +kernel) (by decide +kernel)
set_option maxRecDepth 20000 in
theorem gX7_row_X7_found : GoodIn wsX7_row (wsV RX7 64 RX7 yX7_found wsX7_found) := goodIn_app (goodIn_of _ (by decide +kernel)) ggX7_row_X7_found
set_option maxRecDepth 20000 in
theorem ggX7_row_X3_make : GoodIn wsX7_row wsX3_make := goodIn_r _ [20, 21, 22, 23, 24, 25, 26, 27, 41, 42, 43] (by decide +kernel) (by decide +kernel)
set_option maxRecDepth 20000 in
theorem gX7_row_X3_make : GoodIn wsX7_row (wsV RX7 68 RX3 yX3_make wsX3_make) := goodIn_app (goodIn_of _ (by decide +kernel)) ggX7_row_X3_make
set_option maxRecDepth 20000 in
theorem ggX7_row_X7_unfound : GoodIn wsX7_row wsX7_unfound := goodIn_r _ [31, 14, 32, 33, 34, 35, 36, 37, 38, 39, 40] (by decide +kernel) (by decide +kernel)
set_option maxRecDepth 20000 in
theorem gX7_row_X7_unfound : GoodIn wsX7_row (wsV RX7 72 RX7 yX7_unfound wsX7_unfound) := goodIn_app (goodIn_of _ (by decide +kernel)) ggX7_row_X7_unfound
theorem dX7_row_0 : decode cX7_row 0 = .ok (.iload_n 1, 1) := by decide +kernel
theorem dX7_row_1 : decode cX7_row 1 = .ok (.invokestatic 55, 3) := by decide +kernel
theorem dX7_row_4 : decode cX7_row 4 = .ok (.ifCond .eq 18, 3) := by decide +kernel
theorem dX7_row_7 : decode cX7_row 7 = .ok (.iload_n 2, 1) := by decide +kernel
theorem dX7_row_8 : decode cX7_row 8 = .ok (.iconst 0, 1) := by decide +kernel
theorem dX7_row_9 : decode cX7_row 9 = .ok (.iconst 2, 1) := by decide +kernel
theorem dX7_row_10 : decode cX7_row 10 = .ok (.invokestatic 59, 3) := by decide +kernel
theorem dX7_row_13 : decode cX7_row 13 = .ok (.ifCond .eq 9, 3) := by decide +kernel
theorem dX7_row_16 : decode cX7_row 16 = .ok (.iload_n 3, 1) := by decide +kernel
theorem dX7_row_17 : decode cX7_row 17 = .ok (.bipush 40, 2) := by decide +kernel
theorem dX7_row_19 : decode cX7_row 19 = .ok (.if_icmp .le 6, 3) := by decide +kernel
theorem dX7_row_22 : decode cX7_row 22 = .ok (.ldc 63, 2) := by decide +kernel
theorem dX7_row_24 : decode cX7_row 24 = .ok (.ireturn, 1) := by decide +kernel
theorem dX7_row_25 : decode cX7_row 25 = .ok (.iload_n 3, 1) := by decide +kernel
theorem dX7_row_26 : decode cX7_row 26 = .ok (.ifCond .ge 9, 3) := by decide +kernel
theorem dX7_row_29 : decode cX7_row 29 = .ok (.aload_n 0, 1) := by decide +kernel
theorem dX7_row_30 : decode cX7_row 30 = .ok (.iconst 4, 1) := by decide +kernel
theorem dX7_row_31 : decode cX7_row 31 = .ok (.invokevirtual 64, 3) := by decide +kernel
theorem dX7_row_34 : decode cX7_row 34 = .ok (.ireturn, 1) := by decide +kernel
theorem dX7_row_35 : decode cX7_row 35 = .ok (.aload_n 0, 1) := by decide +kernel
theorem dX7_row_36 : decode cX7_row 36 = .ok (.getfield 10, 3) := by decide +kernel
theorem dX7_row_39 : decode cX7_row 39 = .ok (.iload_n 1, 1) := by decide +kernel
theorem dX7_row_40 : decode cX7_row 40 = .ok (.iload_n 2, 1) := by decide +kernel
theorem dX7_row_41 : decode cX7_row 41 = .ok (.iload_n 3, 1) := by decide +kernel
theorem dX7_row_42 : decode cX7_row 42 = .ok (.invokevirtual 68, 3) := by decide +kernel
theorem dX7_row_45 : decode cX7_row 45 = .ok (.aload_n 0, 1) := by decide +kernel
theorem dX7_row_46 : decode cX7_row 46 = .ok (.iload_n 3, 1) := by decide +kernel
theorem dX7_row_47 : decode cX7_row 47 = .ok (.invokevirtual 72, 3) := by decide +kernel
theorem dX7_row_50 : decode cX7_row 50 = .ok (.ireturn, 1) := by decide +kernel
set_option maxRecDepth 20000 in
theorem ggX7_set_X7_isRow : GoodIn wsX7_set wsX7_isRow := goodIn_r _ [6] (by decide +kernel) (by decide +kernel)
set_option maxRecDepth 20000 in
theorem gX7_set_X7_isRow : GoodIn wsX7_set (va_wsS RX7 55 yX7_isRow wsX7_isRow) := goodIn_app (goodIn_of _ (by decide +kernel)) ggX7_set_X7_isRow
set_option maxRecDepth 20000 in
theorem ggX7_set_X3_isMissing : GoodIn wsX7_set wsX3_isMissing := goodIn_r _ [11, 12, 42, 43, 44] (by decide +kernel) (by decide +kernel)
set_option maxRecDepth 20000 in
theorem gX7_set_X3_isMissing : GoodIn wsX7_set (wsV RX7 75 RX3 yX3_isMissing wsX3_isMissing) := goodIn_app (goodIn_of _ (by decide +kernel)) ggX7_set_X3_isMissing
set_option maxRecDepth 20000 in
theorem ggX7_set_X7_found : GoodIn wsX7_set wsX7_found := goodIn_r _ [16, 17, 18, 33, 34, 35, 36, 37, 38, 39, 40, 41] (by decide +kernel) (by decide +kernel)
set_option maxRecDepth 20000 in
theorem gX7_set_X7_found : GoodIn wsX7_set (wsV RX7 64 RX7 yX7_found wsX7_found) := goodIn_app (goodIn_of _ (by decide +kernel)) ggX7_set_X7_found
set_option maxRecDepth 20000 in
theorem ggX7_set_X3_reaches : GoodIn wsX7_set wsX3_reaches := goodIn_r _ [22, 23, 42, 43, 44] (by decide +kernel) (by decide +kernel)
set_option maxRecDepth 20000 in
theorem gX7_set_X3_reaches : GoodIn wsX7_set (wsV RX7 78 RX3 yX3_reaches wsX3_reaches) := goodIn_app (goodIn_of _ (by decide +kernel)) ggX7_set_X3_reaches
set_option maxRecDepth 20000 in
theorem ggX7_set_X3_put : GoodIn wsX7_set wsX3_put := goodIn_r _ [27, 12, 28, 42, 43, 44] (by decide +kernel) (by decide +kernel)
set_option maxRecDepth 20000 in
theorem gX7_set_X3_put : GoodIn wsX7_set (wsV RX7 81 RX3 yX3_put wsX3_put) := goodIn_app (goodIn_of _ (by decide +kernel)) ggX7_set_X3_put
set_option maxRecDepth 20000 in
theorem ggX7_set_X7_unfound : GoodIn wsX7_set wsX7_unfound := goodIn_r _ [32, 17, 33, 34, 35, 36, 37, 38, 39, 40, 41] (by decide +kernel) (by decide +kernel)
set_option maxRecDepth 20000 in
theorem gX7_set_X7_unfound : GoodIn wsX7_set (wsV RX7 72 RX7 yX7_unfound wsX7_unfound) := goodIn_app (goodIn_of _ (by decide +kernel)) ggX7_set_X7_unfound
theorem dX7_set_0 : decode cX7_set 0 = .ok (.iload_n 1, 1) := by decide +kernel
theorem dX7_set_1 : decode cX7_set 1 = .ok (.invokestatic 55, 3) := by decide +kernel
theorem dX7_set_4 : decode cX7_set 4 = .ok (.ifCond .ne 6, 3) := by decide +kernel
theorem dX7_set_7 : decode cX7_set 7 = .ok (.ldc 63, 2) := by decide +kernel
theorem dX7_set_9 : decode cX7_set 9 = .ok (.ireturn, 1) := by decide +kernel
theorem dX7_set_10 : decode cX7_set 10 = .ok (.aload_n 0, 1) := by decide +kernel
theorem dX7_set_11 : decode cX7_set 11 = .ok (.getfield 10, 3) := by decide +kernel
theorem dX7_set_14 : decode cX7_set 14 = .ok (.iload_n 1, 1) := by decide +kernel
theorem dX7_set_15 : decode cX7_set 15 = .ok (.invokevirtual 75, 3) := by decide +kernel
theorem dX7_set_18 : decode cX7_set 18 = .ok (.ifCond .eq 9, 3) := by decide +kernel
theorem dX7_set_21 : decode cX7_set 21 = .ok (.aload_n 0, 1) := by decide +kernel
theorem dX7_set_22 : decode cX7_set 22 = .ok (.iconst 1, 1) := by decide +kernel
theorem dX7_set_23 : decode cX7_set 23 = .ok (.invokevirtual 64, 3) := by decide +kernel
theorem dX7_set_26 : decode cX7_set 26 = .ok (.ireturn, 1) := by decide +kernel
theorem dX7_set_27 : decode cX7_set 27 = .ok (.aload_n 0, 1) := by decide +kernel
theorem dX7_set_28 : decode cX7_set 28 = .ok (.getfield 10, 3) := by decide +kernel
theorem dX7_set_31 : decode cX7_set 31 = .ok (.iload_n 1, 1) := by decide +kernel
theorem dX7_set_32 : decode cX7_set 32 = .ok (.iload_n 2, 1) := by decide +kernel
theorem dX7_set_33 : decode cX7_set 33 = .ok (.iconst 1, 1) := by decide +kernel
theorem dX7_set_34 : decode cX7_set 34 = .ok (.invokevirtual 78, 3) := by decide +kernel
theorem dX7_set_37 : decode cX7_set 37 = .ok (.ifCond .ne 9, 3) := by decide +kernel
theorem dX7_set_40 : decode cX7_set 40 = .ok (.aload_n 0, 1) := by decide +kernel
theorem dX7_set_41 : decode cX7_set 41 = .ok (.iconst 2, 1) := by decide +kernel
theorem dX7_set_42 : decode cX7_set 42 = .ok (.invokevirtual 64, 3) := by decide +kernel
theorem dX7_set_45 : decode cX7_set 45 = .ok (.ireturn, 1) := by decide +kernel
theorem dX7_set_46 : decode cX7_set 46 = .ok (.aload_n 0, 1) := by decide +kernel
theorem dX7_set_47 : decode cX7_set 47 = .ok (.aload_n 0, 1) := by decide +kernel
theorem dX7_set_48 : decode cX7_set 48 = .ok (.getfield 10, 3) := by decide +kernel
theorem dX7_set_51 : decode cX7_set 51 = .ok (.iload_n 1, 1) := by decide +kernel
theorem dX7_set_52 : decode cX7_set 52 = .ok (.iload_n 2, 1) := by decide +kernel
theorem dX7_set_53 : decode cX7_set 53 = .ok (.iload_n 3, 1) := by decide +kernel
theorem dX7_set_54 : decode cX7_set 54 = .ok (.invokevirtual 81, 3) := by decide +kernel
theorem dX7_set_57 : decode cX7_set 57 = .ok (.invokevirtual 72, 3) := by decide +kernel
theorem dX7_set_60 : decode cX7_set 60 = .ok (.ireturn, 1) := by decide +kernel
set_option maxRecDepth 20000 in
theorem ggX7_copy_X7_isRow : GoodIn wsX7_copy wsX7_isRow := goodIn_r _ [10] (by decide +kernel) (by decide +kernel)
set_option maxRecDepth 20000 in
theorem gX7_copy_X7_isRow : GoodIn wsX7_copy (va_wsS RX7 55 yX7_isRow wsX7_isRow) := goodIn_app (goodIn_of _ (by decide +kernel)) ggX7_copy_X7_isRow
set_option maxRecDepth 20000 in
theorem ggX7_copy_X3_isMissing : GoodIn wsX7_copy wsX3_isMissing := goodIn_r _ [15, 16, 41, 42, 43] (by decide +kernel) (by decide +kernel)
set_option maxRecDepth 20000 in
theorem gX7_copy_X3_isMissing : GoodIn wsX7_copy (wsV RX7 75 RX3 yX3_isMissing wsX3_isMissing) := goodIn_app (goodIn_of _ (by decide +kernel)) ggX7_copy_X3_isMissing
set_option maxRecDepth 20000 in
theorem ggX7_copy_X7_found : GoodIn wsX7_copy wsX7_found := goodIn_r _ [20, 21, 22, 32, 33, 34, 35, 36, 37, 38, 39, 40] (by decide +kernel) (by decide +kernel)
set_option maxRecDepth 20000 in
theorem gX7_copy_X7_found : GoodIn wsX7_copy (wsV RX7 64 RX7 yX7_found wsX7_found) := goodIn_app (goodIn_of _ (by decide +kernel)) ggX7_copy_X7_found
set_option maxRecDepth 20000 in
theorem ggX7_copy_X3_reaches : GoodIn wsX7_copy wsX3_reaches := goodIn_r _ [26, 27, 41, 42, 43] (by decide +kernel) (by decide +kernel)
set_option maxRecDepth 20000 in
theorem gX7_copy_X3_reaches : GoodIn wsX7_copy (wsV RX7 78 RX3 yX3_reaches wsX3_reaches) := goodIn_app (goodIn_of _ (by decide +kernel)) ggX7_copy_X3_reaches
set_option maxRecDepth 20000 in
theorem ggX7_copy_X7_unfound : GoodIn wsX7_copy wsX7_unfound := goodIn_r _ [31, 21, 32, 33, 34, 35, 36, 37, 38, 39, 40] (by decide +kernel) (by decide +kernel)
set_option maxRecDepth 20000 in
theorem gX7_copy_X7_unfound : GoodIn wsX7_copy (wsV RX7 72 RX7 yX7_unfound wsX7_unfound) := goodIn_app (goodIn_of _ (by decide +kernel)) ggX7_copy_X7_unfound
theorem dX7_copy_0 : decode cX7_copy 0 = .ok (.iload_n 1, 1) := by decide +kernel
theorem dX7_copy_1 : decode cX7_copy 1 = .ok (.invokestatic 55, 3) := by decide +kernel
theorem dX7_copy_4 : decode cX7_copy 4 = .ok (.ifCond .eq 10, 3) := by decide +kernel
theorem dX7_copy_7 : decode cX7_copy 7 = .ok (.iload_n 3, 1) := by decide +kernel
theorem dX7_copy_8 : decode cX7_copy 8 = .ok (.invokestatic 55, 3) := by decide +kernel
theorem dX7_copy_11 : decode cX7_copy 11 = .ok (.ifCond .ne 6, 3) := by decide +kernel
theorem dX7_copy_14 : decode cX7_copy 14 = .ok (.ldc 63, 2) := by decide +kernel
theorem dX7_copy_16 : decode cX7_copy 16 = .ok (.ireturn, 1) := by decide +kernel
theorem dX7_copy_17 : decode cX7_copy 17 = .ok (.aload_n 0, 1) := by decide +kernel
theorem dX7_copy_18 : decode cX7_copy 18 = .ok (.getfield 10, 3) := by decide +kernel
theorem dX7_copy_21 : decode cX7_copy 21 = .ok (.iload_n 1, 1) := by decide +kernel
theorem dX7_copy_22 : decode cX7_copy 22 = .ok (.invokevirtual 75, 3) := by decide +kernel
theorem dX7_copy_25 : decode cX7_copy 25 = .ok (.ifCond .ne 14, 3) := by decide +kernel
theorem dX7_copy_28 : decode cX7_copy 28 = .ok (.aload_n 0, 1) := by decide +kernel
theorem dX7_copy_29 : decode cX7_copy 29 = .ok (.getfield 10, 3) := by decide +kernel
theorem dX7_copy_32 : decode cX7_copy 32 = .ok (.iload_n 3, 1) := by decide +kernel
theorem dX7_copy_33 : decode cX7_copy 33 = .ok (.invokevirtual 75, 3) := by decide +kernel
theorem dX7_copy_36 : decode cX7_copy 36 = .ok (.ifCond .eq 9, 3) := by decide +kernel
theorem dX7_copy_39 : decode cX7_copy 39 = .ok (.aload_n 0, 1) := by decide +kernel
theorem dX7_copy_40 : decode cX7_copy 40 = .ok (.iconst 1, 1) := by decide +kernel
theorem dX7_copy_41 : decode cX7_copy 41 = .ok (.invokevirtual 64, 3) := by decide +kernel
theorem dX7_copy_44 : decode cX7_copy 44 = .ok (.ireturn, 1) := by decide +kernel
theorem dX7_copy_45 : decode cX7_copy 45 = .ok (.aload_n 0, 1) := by decide +kernel
theorem dX7_copy_46 : decode cX7_copy 46 = .ok (.getfield 10, 3) := by decide +kernel
theorem dX7_copy_49 : decode cX7_copy 49 = .ok (.getfield 85, 3) := by decide +kernel
theorem dX7_copy_52 : decode cX7_copy 52 = .ok (.iload_n 1, 1) := by decide +kernel
theorem dX7_copy_53 : decode cX7_copy 53 = .ok (.iaload, 1) := by decide +kernel
theorem dX7_copy_54 : decode cX7_copy 54 = .ok (.aload_n 0, 1) := by decide +kernel
theorem dX7_copy_55 : decode cX7_copy 55 = .ok (.getfield 10, 3) := by decide +kernel
theorem dX7_copy_58 : decode cX7_copy 58 = .ok (.getfield 85, 3) := by decide +kernel
theorem dX7_copy_61 : decode cX7_copy 61 = .ok (.iload_n 3, 1) := by decide +kernel
theorem dX7_copy_62 : decode cX7_copy 62 = .ok (.iaload, 1) := by decide +kernel
theorem dX7_copy_63 : decode cX7_copy 63 = .ok (.if_icmp .eq 9, 3) := by decide +kernel
theorem dX7_copy_66 : decode cX7_copy 66 = .ok (.aload_n 0, 1) := by decide +kernel
theorem dX7_copy_67 : decode cX7_copy 67 = .ok (.iconst 5, 1) := by decide +kernel
theorem dX7_copy_68 : decode cX7_copy 68 = .ok (.invokevirtual 64, 3) := by decide +kernel
theorem dX7_copy_71 : decode cX7_copy 71 = .ok (.ireturn, 1) := by decide +kernel
theorem dX7_copy_72 : decode cX7_copy 72 = .ok (.aload_n 0, 1) := by decide +kernel
theorem dX7_copy_73 : decode cX7_copy 73 = .ok (.getfield 10, 3) := by decide +kernel
theorem dX7_copy_76 : decode cX7_copy 76 = .ok (.iload_n 1, 1) := by decide +kernel
theorem dX7_copy_77 : decode cX7_copy 77 = .ok (.iload_n 2, 1) := by decide +kernel
theorem dX7_copy_78 : decode cX7_copy 78 = .ok (.iload 5, 2) := by decide +kernel
theorem dX7_copy_80 : decode cX7_copy 80 = .ok (.invokevirtual 78, 3) := by decide +kernel
theorem dX7_copy_83 : decode cX7_copy 83 = .ok (.ifCond .eq 18, 3) := by decide +kernel
theorem dX7_copy_86 : decode cX7_copy 86 = .ok (.aload_n 0, 1) := by decide +kernel
theorem dX7_copy_87 : decode cX7_copy 87 = .ok (.getfield 10, 3) := by decide +kernel
theorem dX7_copy_90 : decode cX7_copy 90 = .ok (.iload_n 3, 1) := by decide +kernel
theorem dX7_copy_91 : decode cX7_copy 91 = .ok (.iload 4, 2) := by decide +kernel
theorem dX7_copy_93 : decode cX7_copy 93 = .ok (.iload 5, 2) := by decide +kernel
theorem dX7_copy_95 : decode cX7_copy 95 = .ok (.invokevirtual 78, 3) := by decide +kernel
theorem dX7_copy_98 : decode cX7_copy 98 = .ok (.ifCond .ne 9, 3) := by decide +kernel
theorem dX7_copy_101 : decode cX7_copy 101 = .ok (.aload_n 0, 1) := by decide +kernel
theorem dX7_copy_102 : decode cX7_copy 102 = .ok (.iconst 2, 1) := by decide +kernel
theorem dX7_copy_103 : decode cX7_copy 103 = .ok (.invokevirtual 64, 3) := by decide +kernel
theorem dX7_copy_106 : decode cX7_copy 106 = .ok (.ireturn, 1) := by decide +kernel
theorem dX7_copy_107 : decode cX7_copy 107 = .ok (.aload_n 0, 1) := by decide +kernel
theorem dX7_copy_108 : decode cX7_copy 108 = .ok (.getfield 10, 3) := by decide +kernel
theorem dX7_copy_111 : decode cX7_copy 111 = .ok (.getfield 89, 3) := by decide +kernel
theorem dX7_copy_114 : decode cX7_copy 114 = .ok (.iload_n 1, 1) := by decide +kernel
theorem dX7_copy_115 : decode cX7_copy 115 = .ok (.aaload, 1) := by decide +kernel
theorem dX7_copy_116 : decode cX7_copy 116 = .ok (.iload_n 2, 1) := by decide +kernel
theorem dX7_copy_117 : decode cX7_copy 117 = .ok (.aload_n 0, 1) := by decide +kernel
theorem dX7_copy_118 : decode cX7_copy 118 = .ok (.getfield 10, 3) := by decide +kernel
theorem dX7_copy_121 : decode cX7_copy 121 = .ok (.getfield 89, 3) := by decide +kernel
theorem dX7_copy_124 : decode cX7_copy 124 = .ok (.iload_n 3, 1) := by decide +kernel
theorem dX7_copy_125 : decode cX7_copy 125 = .ok (.aaload, 1) := by decide +kernel
theorem dX7_copy_126 : decode cX7_copy 126 = .ok (.iload 4, 2) := by decide +kernel
theorem dX7_copy_128 : decode cX7_copy 128 = .ok (.iload 5, 2) := by decide +kernel
theorem dX7_copy_130 : decode cX7_copy 130 = .ok (.invokestatic 93, 3) := by decide +kernel
theorem dX7_copy_133 : decode cX7_copy 133 = .ok (.aload_n 0, 1) := by decide +kernel
theorem dX7_copy_134 : decode cX7_copy 134 = .ok (.iload 5, 2) := by decide +kernel
theorem dX7_copy_136 : decode cX7_copy 136 = .ok (.invokevirtual 72, 3) := by decide +kernel
theorem dX7_copy_139 : decode cX7_copy 139 = .ok (.ireturn, 1) := by decide +kernel
set_option maxRecDepth 20000 in
theorem ggX7_drop_X7_isRow : GoodIn wsX7_drop wsX7_isRow := goodIn_r _ [6] (by decide +kernel) (by decide +kernel)
set_option maxRecDepth 20000 in
theorem gX7_drop_X7_isRow : GoodIn wsX7_drop (va_wsS RX7 55 yX7_isRow wsX7_isRow) := goodIn_app (goodIn_of _ (by decide +kernel)) ggX7_drop_X7_isRow
set_option maxRecDepth 20000 in
theorem ggX7_drop_X3_isMissing : GoodIn wsX7_drop wsX3_isMissing := goodIn_r _ [11, 12, 32, 33, 34] (by decide +kernel) (by decide +kernel)
set_option maxRecDepth 20000 in
theorem gX7_drop_X3_isMissing : GoodIn wsX7_drop (wsV RX7 75 RX3 yX3_isMissing wsX3_isMissing) := goodIn_app (goodIn_of _ (by decide +kernel)) ggX7_drop_X3_isMissing
set_option maxRecDepth 20000 in
theorem ggX7_drop_X7_found : GoodIn wsX7_drop wsX7_found := goodIn_r _ [16, 17, 18, 23, 24, 25, 26, 27, 28, 29, 30, 31] (by decide +kernel) (by decide +kernel)
set_option maxRecDepth 20000 in
theorem gX7_drop_X7_found : GoodIn wsX7_drop (wsV RX7 64 RX7 yX7_found wsX7_found) := goodIn_app (goodIn_of _ (by decide +kernel)) ggX7_drop_X7_found
set_option maxRecDepth 20000 in
theorem ggX7_drop_X7_unfound : GoodIn wsX7_drop wsX7_unfound := goodIn_r _ [22, 17, 23, 24, 25, 26, 27, 28, 29, 30, 31] (by decide +kernel) (by decide +kernel)
set_option maxRecDepth 20000 in
theorem gX7_drop_X7_unfound : GoodIn wsX7_drop (wsV RX7 72 RX7 yX7_unfound wsX7_unfound) := goodIn_app (goodIn_of _ (by decide +kernel)) ggX7_drop_X7_unfound
theorem dX7_drop_0 : decode cX7_drop 0 = .ok (.iload_n 1, 1) := by decide +kernel
theorem dX7_drop_1 : decode cX7_drop 1 = .ok (.invokestatic 55, 3) := by decide +kernel
theorem dX7_drop_4 : decode cX7_drop 4 = .ok (.ifCond .ne 6, 3) := by decide +kernel
theorem dX7_drop_7 : decode cX7_drop 7 = .ok (.ldc 63, 2) := by decide +kernel
theorem dX7_drop_9 : decode cX7_drop 9 = .ok (.ireturn, 1) := by decide +kernel
theorem dX7_drop_10 : decode cX7_drop 10 = .ok (.aload_n 0, 1) := by decide +kernel
theorem dX7_drop_11 : decode cX7_drop 11 = .ok (.getfield 10, 3) := by decide +kernel
theorem dX7_drop_14 : decode cX7_drop 14 = .ok (.iload_n 1, 1) := by decide +kernel
theorem dX7_drop_15 : decode cX7_drop 15 = .ok (.invokevirtual 75, 3) := by decide +kernel
theorem dX7_drop_18 : decode cX7_drop 18 = .ok (.ifCond .eq 9, 3) := by decide +kernel
theorem dX7_drop_21 : decode cX7_drop 21 = .ok (.aload_n 0, 1) := by decide +kernel
theorem dX7_drop_22 : decode cX7_drop 22 = .ok (.iconst 1, 1) := by decide +kernel
theorem dX7_drop_23 : decode cX7_drop 23 = .ok (.invokevirtual 64, 3) := by decide +kernel
theorem dX7_drop_26 : decode cX7_drop 26 = .ok (.ireturn, 1) := by decide +kernel
theorem dX7_drop_27 : decode cX7_drop 27 = .ok (.aload_n 0, 1) := by decide +kernel
theorem dX7_drop_28 : decode cX7_drop 28 = .ok (.getfield 10, 3) := by decide +kernel
theorem dX7_drop_31 : decode cX7_drop 31 = .ok (.getfield 99, 3) := by decide +kernel
theorem dX7_drop_34 : decode cX7_drop 34 = .ok (.iload_n 1, 1) := by decide +kernel
theorem dX7_drop_35 : decode cX7_drop 35 = .ok (.iaload, 1) := by decide +kernel
theorem dX7_drop_36 : decode cX7_drop 36 = .ok (.istore_n 2, 1) := by decide +kernel
theorem dX7_drop_37 : decode cX7_drop 37 = .ok (.aload_n 0, 1) := by decide +kernel
theorem dX7_drop_38 : decode cX7_drop 38 = .ok (.getfield 10, 3) := by decide +kernel
theorem dX7_drop_41 : decode cX7_drop 41 = .ok (.getfield 85, 3) := by decide +kernel
theorem dX7_drop_44 : decode cX7_drop 44 = .ok (.iload_n 1, 1) := by decide +kernel
theorem dX7_drop_45 : decode cX7_drop 45 = .ok (.iconst (-1), 1) := by decide +kernel
theorem dX7_drop_46 : decode cX7_drop 46 = .ok (.iastore, 1) := by decide +kernel
theorem dX7_drop_47 : decode cX7_drop 47 = .ok (.aload_n 0, 1) := by decide +kernel
theorem dX7_drop_48 : decode cX7_drop 48 = .ok (.iload_n 2, 1) := by decide +kernel
theorem dX7_drop_49 : decode cX7_drop 49 = .ok (.invokevirtual 72, 3) := by decide +kernel
theorem dX7_drop_52 : decode cX7_drop 52 = .ok (.ireturn, 1) := by decide +kernel
set_option maxRecDepth 20000 in
theorem ggX7_feed_X7_isWithin : GoodIn wsX7_feed wsX7_isWithin := goodIn_r _ [7] (by decide +kernel) (by decide +kernel)
set_option maxRecDepth 20000 in
theorem gX7_feed_X7_isWithin : GoodIn wsX7_feed (va_wsS RX7 59 yX7_isWithin wsX7_isWithin) := goodIn_app (goodIn_of _ (by decide +kernel)) ggX7_feed_X7_isWithin
set_option maxRecDepth 20000 in
theorem ggX7_feed_X5_add : GoodIn wsX7_feed wsX5_add := goodIn_r _ [12, 13, 14, 24, 25, 26] (by decide +kernel) (by decide +kernel)
set_option maxRecDepth 20000 in
theorem gX7_feed_X5_add : GoodIn wsX7_feed (wsV RX7 102 RX5 yX5_add wsX5_add) := goodIn_app (goodIn_of _ (by decide +kernel)) ggX7_feed_X5_add
theorem dX7_feed_0 : decode cX7_feed 0 = .ok (.iload_n 1, 1) := by decide +kernel
theorem dX7_feed_1 : decode cX7_feed 1 = .ok (.iconst 0, 1) := by decide +kernel
theorem dX7_feed_2 : decode cX7_feed 2 = .ok (.sipush 255, 3) := by decide +kernel
theorem dX7_feed_5 : decode cX7_feed 5 = .ok (.invokestatic 59, 3) := by decide +kernel
theorem dX7_feed_8 : decode cX7_feed 8 = .ok (.ifCond .ne 6, 3) := by decide +kernel
theorem dX7_feed_11 : decode cX7_feed 11 = .ok (.ldc 63, 2) := by decide +kernel
theorem dX7_feed_13 : decode cX7_feed 13 = .ok (.ireturn, 1) := by decide +kernel
theorem dX7_feed_14 : decode cX7_feed 14 = .ok (.aload_n 0, 1) := by decide +kernel
theorem dX7_feed_15 : decode cX7_feed 15 = .ok (.getfield 19, 3) := by decide +kernel
theorem dX7_feed_18 : decode cX7_feed 18 = .ok (.iload_n 1, 1) := by decide +kernel
theorem dX7_feed_19 : decode cX7_feed 19 = .ok (.invokevirtual 102, 3) := by decide +kernel
theorem dX7_feed_22 : decode cX7_feed 22 = .ok (.ifCond .eq 13, 3) := by decide +kernel
theorem dX7_feed_25 : decode cX7_feed 25 = .ok (.aload_n 0, 1) := by decide +kernel
theorem dX7_feed_26 : decode cX7_feed 26 = .ok (.getfield 19, 3) := by decide +kernel
theorem dX7_feed_29 : decode cX7_feed 29 = .ok (.getfield 105, 3) := by decide +kernel
theorem dX7_feed_32 : decode cX7_feed 32 = .ok (.goto 5, 3) := by decide +kernel
theorem dX7_feed_35 : decode cX7_feed 35 = .ok (.ldc 109, 2) := by decide +kernel
theorem dX7_feed_37 : decode cX7_feed 37 = .ok (.ireturn, 1) := by decide +kernel
set_option maxRecDepth 20000 in
theorem ggX7_street_X2_readStreet : GoodIn wsX7_street wsX2_readStreet := goodIn_r _ [11, 12, 13, 14, 15, 16, 10, 17, 18, 19, 20, 21, 22, 23, 24, 25, 26, 27, 28, 29, 30, 31, 32, 33, 34, 35, 36, 37, 38, 39, 40, 41, 42, 43, 44, 45, 46, 47, 48, 49, 50, 51, 52, 53, 54, 55, 56, 57, 58, 59, 60, 61, 62, 63, 64, 65, 66, 67, 68, 69, 70, 71, 100, 101, 97, 98, 99, 102, 103, 104, 105, 106, 107, 108, 109, 110, 111] (by decide +kernel) (by decide +kernel)
set_option maxRecDepth 20000 in
theorem gX7_street_X2_readStreet : GoodIn wsX7_street (wsV RX7 117 RX2 yX2_readStreet wsX2_readStreet) := goodIn_app (goodIn_of _ (by decide +kernel)) ggX7_street_X2_readStreet
set_option maxRecDepth 20000 in
theorem ggX7_street_X4_take : GoodIn wsX7_street wsX4_take := goodIn_r _ [75, 67, 76, 77, 78, 79, 68, 69, 70, 71, 46, 47, 48, 49, 50, 102, 103, 104, 105, 106, 107, 108, 109, 110, 111] (by decide +kernel) (by decide +kernel)
set_option maxRecDepth 20000 in
theorem gX7_street_X4_take : GoodIn wsX7_street (wsV RX7 133 RX4 yX4_take wsX4_take) := goodIn_app (goodIn_of _ (by decide +kernel)) ggX7_street_X4_take
set_option maxRecDepth 20000 in
theorem ggX7_street_X0_forget : GoodIn wsX7_street wsX0_forget := goodIn_r _ [84, 85, 112, 113, 114] (by decide +kernel) (by decide +kernel)
set_option maxRecDepth 20000 in
theorem gX7_street_X0_forget : GoodIn wsX7_street (wsV RX7 137 RX0 yX0_forget wsX0_forget) := goodIn_app (goodIn_of _ (by decide +kernel)) ggX7_street_X0_forget
theorem dX7_street_0 : decode cX7_street 0 = .ok (.aload_n 0, 1) := by decide +kernel
theorem dX7_street_1 : decode cX7_street 1 = .ok (.getfield 33, 3) := by decide +kernel
theorem dX7_street_4 : decode cX7_street 4 = .ok (.getfield 110, 3) := by decide +kernel
theorem dX7_street_7 : decode cX7_street 7 = .ok (.astore_n 1, 1) := by decide +kernel
theorem dX7_street_8 : decode cX7_street 8 = .ok (.aload_n 0, 1) := by decide +kernel
theorem dX7_street_9 : decode cX7_street 9 = .ok (.getfield 19, 3) := by decide +kernel
theorem dX7_street_12 : decode cX7_street 12 = .ok (.getfield 113, 3) := by decide +kernel
theorem dX7_street_15 : decode cX7_street 15 = .ok (.astore_n 2, 1) := by decide +kernel
theorem dX7_street_16 : decode cX7_street 16 = .ok (.aload_n 2, 1) := by decide +kernel
theorem dX7_street_17 : decode cX7_street 17 = .ok (.aload_n 0, 1) := by decide +kernel
theorem dX7_street_18 : decode cX7_street 18 = .ok (.getfield 19, 3) := by decide +kernel
theorem dX7_street_21 : decode cX7_street 21 = .ok (.aload_n 1, 1) := by decide +kernel
theorem dX7_street_22 : decode cX7_street 22 = .ok (.invokevirtual 117, 3) := by decide +kernel
theorem dX7_street_25 : decode cX7_street 25 = .ok (.aload_n 0, 1) := by decide +kernel
theorem dX7_street_26 : decode cX7_street 26 = .ok (.getfield 19, 3) := by decide +kernel
theorem dX7_street_29 : decode cX7_street 29 = .ok (.iconst 0, 1) := by decide +kernel
theorem dX7_street_30 : decode cX7_street 30 = .ok (.putfield 105, 3) := by decide +kernel
theorem dX7_street_33 : decode cX7_street 33 = .ok (.aload_n 2, 1) := by decide +kernel
theorem dX7_street_34 : decode cX7_street 34 = .ok (.getfield 123, 3) := by decide +kernel
theorem dX7_street_37 : decode cX7_street 37 = .ok (.ifCond .eq 19, 3) := by decide +kernel
theorem dX7_street_40 : decode cX7_street 40 = .ok (.aload_n 0, 1) := by decide +kernel
theorem dX7_street_41 : decode cX7_street 41 = .ok (.aload_n 2, 1) := by decide +kernel
theorem dX7_street_42 : decode cX7_street 42 = .ok (.getfield 123, 3) := by decide +kernel
theorem dX7_street_45 : decode cX7_street 45 = .ok (.putfield 126, 3) := by decide +kernel
theorem dX7_street_48 : decode cX7_street 48 = .ok (.ldc 129, 2) := by decide +kernel
theorem dX7_street_50 : decode cX7_street 50 = .ok (.aload_n 2, 1) := by decide +kernel
theorem dX7_street_51 : decode cX7_street 51 = .ok (.getfield 130, 3) := by decide +kernel
theorem dX7_street_54 : decode cX7_street 54 = .ok (.isub, 1) := by decide +kernel
theorem dX7_street_55 : decode cX7_street 55 = .ok (.ireturn, 1) := by decide +kernel
theorem dX7_street_56 : decode cX7_street 56 = .ok (.aload_n 0, 1) := by decide +kernel
theorem dX7_street_57 : decode cX7_street 57 = .ok (.getfield 26, 3) := by decide +kernel
theorem dX7_street_60 : decode cX7_street 60 = .ok (.aload_n 1, 1) := by decide +kernel
theorem dX7_street_61 : decode cX7_street 61 = .ok (.invokevirtual 133, 3) := by decide +kernel
theorem dX7_street_64 : decode cX7_street 64 = .ok (.aload_n 0, 1) := by decide +kernel
theorem dX7_street_65 : decode cX7_street 65 = .ok (.getfield 40, 3) := by decide +kernel
theorem dX7_street_68 : decode cX7_street 68 = .ok (.invokevirtual 137, 3) := by decide +kernel
theorem dX7_street_71 : decode cX7_street 71 = .ok (.aload_n 0, 1) := by decide +kernel
theorem dX7_street_72 : decode cX7_street 72 = .ok (.getfield 26, 3) := by decide +kernel
theorem dX7_street_75 : decode cX7_street 75 = .ok (.getfield 140, 3) := by decide +kernel
theorem dX7_street_78 : decode cX7_street 78 = .ok (.ireturn, 1) := by decide +kernel
theorem dX7_fault_0 : decode cX7_fault 0 = .ok (.aload_n 0, 1) := by decide +kernel
theorem dX7_fault_1 : decode cX7_fault 1 = .ok (.getfield 126, 3) := by decide +kernel
theorem dX7_fault_4 : decode cX7_fault 4 = .ok (.ireturn, 1) := by decide +kernel
set_option maxRecDepth 20000 in
theorem ggX7_times_X7_isStreetless : GoodIn wsX7_times wsX7_isStreetless := goodIn_r _ [10, 3, 85, 86, 87, 88, 89, 90, 91, 92, 93, 94, 95, 96, 97, 98, 99, 100, 101, 102, 103] (by decide +kernel) (by decide +kernel)
set_option maxRecDepth 20000 in
theorem gX7_times_X7_isStreetless : GoodIn wsX7_times (wsV RX7 143 RX7 yX7_isStreetless wsX7_isStreetless) := goodIn_app (goodIn_of _ (by decide +kernel)) ggX7_times_X7_isStreetless
set_option maxRecDepth 20000 in
theorem ggX7_times_X7_isWithin : GoodIn wsX7_times wsX7_isWithin := goodIn_r _ [13] (by decide +kernel) (by decide +kernel)
set_option maxRecDepth 20000 in
theorem gX7_times_X7_isWithin : GoodIn wsX7_times (va_wsS RX7 59 yX7_isWithin wsX7_isWithin) := goodIn_app (goodIn_of _ (by decide +kernel)) ggX7_times_X7_isWithin
set_option maxRecDepth 20000 in
theorem ggX7_times_X0_keep : GoodIn wsX7_times wsX0_keep := goodIn_r _ [18, 19, 20, 21, 22, 23, 24, 25, 26, 27, 28, 29, 30, 31, 32, 33, 34, 35, 36, 37, 38, 39, 40, 41, 42, 43, 44, 104, 105, 106, 94, 95, 96, 97, 98, 99, 100, 101, 102, 103] (by decide +kernel) (by decide +kernel)
set_option maxRecDepth 20000 in
theorem gX7_times_X0_keep : GoodIn wsX7_times (wsV RX7 151 RX0 yX0_keep wsX0_keep) := goodIn_app (goodIn_of _ (by decide +kernel)) ggX7_times_X0_keep
set_option maxRecDepth 20000 in
theorem ggX7_times_X4_turn : GoodIn wsX7_times wsX4_turn := goodIn_r _ [48, 44, 49, 50, 51, 29, 52, 41, 43, 53, 54, 55, 56, 40, 57, 58, 59, 60, 61, 62, 63, 64, 36, 38, 31, 65, 66, 67, 68, 42, 39, 69, 70, 71, 72, 73, 74, 75, 76, 37, 77, 78, 79, 80, 81, 82, 83, 84, 94, 95, 96, 97, 98, 99, 100, 101, 102, 103] (by decide +kernel) (by decide +kernel)
set_option maxRecDepth 20000 in
theorem gX7_times_X4_turn : GoodIn wsX7_times (wsV RX7 154 RX4 yX4_turn wsX4_turn) := goodIn_app (goodIn_of _ (by decide +kernel)) ggX7_times_X4_turn
theorem dX7_times_0 : decode cX7_times 0 = .ok (.aload_n 0, 1) := by decide +kernel
theorem dX7_times_1 : decode cX7_times 1 = .ok (.invokevirtual 143, 3) := by decide +kernel
theorem dX7_times_4 : decode cX7_times 4 = .ok (.ifCond .eq 6, 3) := by decide +kernel
theorem dX7_times_7 : decode cX7_times 7 = .ok (.ldc 147, 2) := by decide +kernel
theorem dX7_times_9 : decode cX7_times 9 = .ok (.ireturn, 1) := by decide +kernel
theorem dX7_times_10 : decode cX7_times 10 = .ok (.iload_n 1, 1) := by decide +kernel
theorem dX7_times_11 : decode cX7_times 11 = .ok (.iconst 1, 1) := by decide +kernel
theorem dX7_times_12 : decode cX7_times 12 = .ok (.bipush 24, 2) := by decide +kernel
theorem dX7_times_14 : decode cX7_times 14 = .ok (.invokestatic 59, 3) := by decide +kernel
theorem dX7_times_17 : decode cX7_times 17 = .ok (.ifCond .ne 6, 3) := by decide +kernel
theorem dX7_times_20 : decode cX7_times 20 = .ok (.ldc 63, 2) := by decide +kernel
theorem dX7_times_22 : decode cX7_times 22 = .ok (.ireturn, 1) := by decide +kernel
theorem dX7_times_23 : decode cX7_times 23 = .ok (.aload_n 0, 1) := by decide +kernel
theorem dX7_times_24 : decode cX7_times 24 = .ok (.getfield 26, 3) := by decide +kernel
theorem dX7_times_27 : decode cX7_times 27 = .ok (.getfield 148, 3) := by decide +kernel
theorem dX7_times_30 : decode cX7_times 30 = .ok (.iload_n 1, 1) := by decide +kernel
theorem dX7_times_31 : decode cX7_times 31 = .ok (.iadd, 1) := by decide +kernel
theorem dX7_times_32 : decode cX7_times 32 = .ok (.sipush 9999, 3) := by decide +kernel
theorem dX7_times_35 : decode cX7_times 35 = .ok (.if_icmp .le 6, 3) := by decide +kernel
theorem dX7_times_38 : decode cX7_times 38 = .ok (.ldc 109, 2) := by decide +kernel
theorem dX7_times_40 : decode cX7_times 40 = .ok (.ireturn, 1) := by decide +kernel
theorem dX7_times_41 : decode cX7_times 41 = .ok (.iconst 0, 1) := by decide +kernel
theorem dX7_times_42 : decode cX7_times 42 = .ok (.istore_n 2, 1) := by decide +kernel
theorem dX7_times_43 : decode cX7_times 43 = .ok (.iload_n 2, 1) := by decide +kernel
theorem dX7_times_44 : decode cX7_times 44 = .ok (.iload_n 1, 1) := by decide +kernel
theorem dX7_times_45 : decode cX7_times 45 = .ok (.if_icmp .ge 27, 3) := by decide +kernel
theorem dX7_times_48 : decode cX7_times 48 = .ok (.aload_n 0, 1) := by decide +kernel
theorem dX7_times_49 : decode cX7_times 49 = .ok (.getfield 40, 3) := by decide +kernel
theorem dX7_times_52 : decode cX7_times 52 = .ok (.aload_n 0, 1) := by decide +kernel
theorem dX7_times_53 : decode cX7_times 53 = .ok (.getfield 26, 3) := by decide +kernel
theorem dX7_times_56 : decode cX7_times 56 = .ok (.invokevirtual 151, 3) := by decide +kernel
theorem dX7_times_59 : decode cX7_times 59 = .ok (.aload_n 0, 1) := by decide +kernel
theorem dX7_times_60 : decode cX7_times 60 = .ok (.getfield 26, 3) := by decide +kernel
theorem dX7_times_63 : decode cX7_times 63 = .ok (.invokevirtual 154, 3) := by decide +kernel
theorem dX7_times_66 : decode cX7_times 66 = .ok (.iinc 2 1, 3) := by decide +kernel
theorem dX7_times_69 : decode cX7_times 69 = .ok (.goto (-26), 3) := by decide +kernel
theorem dX7_times_72 : decode cX7_times 72 = .ok (.aload_n 0, 1) := by decide +kernel
theorem dX7_times_73 : decode cX7_times 73 = .ok (.getfield 26, 3) := by decide +kernel
theorem dX7_times_76 : decode cX7_times 76 = .ok (.getfield 157, 3) := by decide +kernel
theorem dX7_times_79 : decode cX7_times 79 = .ok (.ireturn, 1) := by decide +kernel
set_option maxRecDepth 20000 in
theorem ggX7_open_X7_isWindow : GoodIn wsX7_open wsX7_isWindow := goodIn_r _ [9, 2, 45, 46, 47, 48, 49, 50, 51, 52, 53, 54, 55, 56, 57, 58, 59, 60, 61, 62, 63] (by decide +kernel) (by decide +kernel)
set_option maxRecDepth 20000 in
theorem gX7_open_X7_isWindow : GoodIn wsX7_open (wsV RX7 160 RX7 yX7_isWindow wsX7_isWindow) := goodIn_app (goodIn_of _ (by decide +kernel)) ggX7_open_X7_isWindow
set_option maxRecDepth 20000 in
theorem ggX7_open_X4_isOpen : GoodIn wsX7_open wsX4_isOpen := goodIn_r _ [14, 15, 54, 55, 56, 57, 58, 59, 60, 61, 62, 63] (by decide +kernel) (by decide +kernel)
set_option maxRecDepth 20000 in
theorem gX7_open_X4_isOpen : GoodIn wsX7_open (wsV RX7 163 RX4 yX4_isOpen wsX4_isOpen) := goodIn_app (goodIn_of _ (by decide +kernel)) ggX7_open_X4_isOpen
set_option maxRecDepth 20000 in
theorem ggX7_open_X0_keep : GoodIn wsX7_open wsX0_keep := goodIn_r _ [20, 21, 22, 23, 24, 25, 26, 27, 28, 29, 30, 13, 31, 32, 33, 34, 35, 36, 37, 38, 39, 40, 41, 42, 43, 44, 15, 64, 65, 66, 54, 55, 56, 57, 58, 59, 60, 61, 62, 63] (by decide +kernel) (by decide +kernel)
set_option maxRecDepth 20000 in
theorem gX7_open_X0_keep : GoodIn wsX7_open (wsV RX7 151 RX0 yX0_keep wsX0_keep) := goodIn_app (goodIn_of _ (by decide +kernel)) ggX7_open_X0_keep
theorem dX7_open_0 : decode cX7_open 0 = .ok (.aload_n 0, 1) := by decide +kernel
theorem dX7_open_1 : decode cX7_open 1 = .ok (.iload_n 1, 1) := by decide +kernel
theorem dX7_open_2 : decode cX7_open 2 = .ok (.invokevirtual 160, 3) := by decide +kernel
theorem dX7_open_5 : decode cX7_open 5 = .ok (.ifCond .ne 6, 3) := by decide +kernel
theorem dX7_open_8 : decode cX7_open 8 = .ok (.ldc 63, 2) := by decide +kernel
theorem dX7_open_10 : decode cX7_open 10 = .ok (.ireturn, 1) := by decide +kernel
theorem dX7_open_11 : decode cX7_open 11 = .ok (.aload_n 0, 1) := by decide +kernel
theorem dX7_open_12 : decode cX7_open 12 = .ok (.getfield 26, 3) := by decide +kernel
theorem dX7_open_15 : decode cX7_open 15 = .ok (.iload_n 1, 1) := by decide +kernel
theorem dX7_open_16 : decode cX7_open 16 = .ok (.invokevirtual 163, 3) := by decide +kernel
theorem dX7_open_19 : decode cX7_open 19 = .ok (.ifCond .eq 6, 3) := by decide +kernel
theorem dX7_open_22 : decode cX7_open 22 = .ok (.ldc 147, 2) := by decide +kernel
theorem dX7_open_24 : decode cX7_open 24 = .ok (.ireturn, 1) := by decide +kernel
theorem dX7_open_25 : decode cX7_open 25 = .ok (.aload_n 0, 1) := by decide +kernel
theorem dX7_open_26 : decode cX7_open 26 = .ok (.getfield 40, 3) := by decide +kernel
theorem dX7_open_29 : decode cX7_open 29 = .ok (.aload_n 0, 1) := by decide +kernel
theorem dX7_open_30 : decode cX7_open 30 = .ok (.getfield 26, 3) := by decide +kernel
theorem dX7_open_33 : decode cX7_open 33 = .ok (.invokevirtual 151, 3) := by decide +kernel
theorem dX7_open_36 : decode cX7_open 36 = .ok (.aload_n 0, 1) := by decide +kernel
theorem dX7_open_37 : decode cX7_open 37 = .ok (.getfield 26, 3) := by decide +kernel
theorem dX7_open_40 : decode cX7_open 40 = .ok (.dup, 1) := by decide +kernel
theorem dX7_open_41 : decode cX7_open 41 = .ok (.getfield 157, 3) := by decide +kernel
theorem dX7_open_44 : decode cX7_open 44 = .ok (.iconst 1, 1) := by decide +kernel
theorem dX7_open_45 : decode cX7_open 45 = .ok (.iload_n 1, 1) := by decide +kernel
theorem dX7_open_46 : decode cX7_open 46 = .ok (.ishl, 1) := by decide +kernel
theorem dX7_open_47 : decode cX7_open 47 = .ok (.ior, 1) := by decide +kernel
theorem dX7_open_48 : decode cX7_open 48 = .ok (.putfield 157, 3) := by decide +kernel
theorem dX7_open_51 : decode cX7_open 51 = .ok (.aload_n 0, 1) := by decide +kernel
theorem dX7_open_52 : decode cX7_open 52 = .ok (.getfield 26, 3) := by decide +kernel
theorem dX7_open_55 : decode cX7_open 55 = .ok (.getfield 166, 3) := by decide +kernel
theorem dX7_open_58 : decode cX7_open 58 = .ok (.iload_n 1, 1) := by decide +kernel
theorem dX7_open_59 : decode cX7_open 59 = .ok (.iaload, 1) := by decide +kernel
theorem dX7_open_60 : decode cX7_open 60 = .ok (.ireturn, 1) := by decide +kernel
set_option maxRecDepth 20000 in
theorem ggX7_press_X7_isWindow : GoodIn wsX7_press wsX7_isWindow := goodIn_r _ [9, 2, 45, 46, 47, 48, 49, 50, 51, 52, 53, 54, 55, 56, 57, 58, 59, 60, 61, 62, 63] (by decide +kernel) (by decide +kernel)
set_option maxRecDepth 20000 in
theorem gX7_press_X7_isWindow : GoodIn wsX7_press (wsV RX7 160 RX7 yX7_isWindow wsX7_isWindow) := goodIn_app (goodIn_of _ (by decide +kernel)) ggX7_press_X7_isWindow
set_option maxRecDepth 20000 in
theorem ggX7_press_X4_isOpen : GoodIn wsX7_press wsX4_isOpen := goodIn_r _ [14, 15, 54, 55, 56, 57, 58, 59, 60, 61, 62, 63] (by decide +kernel) (by decide +kernel)
set_option maxRecDepth 20000 in
theorem gX7_press_X4_isOpen : GoodIn wsX7_press (wsV RX7 163 RX4 yX4_isOpen wsX4_isOpen) := goodIn_app (goodIn_of _ (by decide +kernel)) ggX7_press_X4_isOpen
set_option maxRecDepth 20000 in
theorem ggX7_press_X0_keep : GoodIn wsX7_press wsX0_keep := goodIn_r _ [20, 21, 22, 23, 24, 25, 26, 27, 28, 29, 30, 13, 31, 32, 33, 34, 35, 36, 37, 38, 39, 40, 41, 42, 43, 44, 15, 64, 65, 66, 54, 55, 56, 57, 58, 59, 60, 61, 62, 63] (by decide +kernel) (by decide +kernel)
set_option maxRecDepth 20000 in
theorem gX7_press_X0_keep : GoodIn wsX7_press (wsV RX7 151 RX0 yX0_keep wsX0_keep) := goodIn_app (goodIn_of _ (by decide +kernel)) ggX7_press_X0_keep
theorem dX7_press_0 : decode cX7_press 0 = .ok (.aload_n 0, 1) := by decide +kernel
theorem dX7_press_1 : decode cX7_press 1 = .ok (.iload_n 1, 1) := by decide +kernel
theorem dX7_press_2 : decode cX7_press 2 = .ok (.invokevirtual 160, 3) := by decide +kernel
theorem dX7_press_5 : decode cX7_press 5 = .ok (.ifCond .ne 6, 3) := by decide +kernel
theorem dX7_press_8 : decode cX7_press 8 = .ok (.ldc 63, 2) := by decide +kernel
theorem dX7_press_10 : decode cX7_press 10 = .ok (.ireturn, 1) := by decide +kernel
theorem dX7_press_11 : decode cX7_press 11 = .ok (.aload_n 0, 1) := by decide +kernel
theorem dX7_press_12 : decode cX7_press 12 = .ok (.getfield 26, 3) := by decide +kernel
theorem dX7_press_15 : decode cX7_press 15 = .ok (.iload_n 1, 1) := by decide +kernel
theorem dX7_press_16 : decode cX7_press 16 = .ok (.invokevirtual 163, 3) := by decide +kernel
theorem dX7_press_19 : decode cX7_press 19 = .ok (.ifCond .ne 6, 3) := by decide +kernel
theorem dX7_press_22 : decode cX7_press 22 = .ok (.ldc 147, 2) := by decide +kernel
theorem dX7_press_24 : decode cX7_press 24 = .ok (.ireturn, 1) := by decide +kernel
theorem dX7_press_25 : decode cX7_press 25 = .ok (.aload_n 0, 1) := by decide +kernel
theorem dX7_press_26 : decode cX7_press 26 = .ok (.getfield 40, 3) := by decide +kernel
theorem dX7_press_29 : decode cX7_press 29 = .ok (.aload_n 0, 1) := by decide +kernel
theorem dX7_press_30 : decode cX7_press 30 = .ok (.getfield 26, 3) := by decide +kernel
theorem dX7_press_33 : decode cX7_press 33 = .ok (.invokevirtual 151, 3) := by decide +kernel
theorem dX7_press_36 : decode cX7_press 36 = .ok (.aload_n 0, 1) := by decide +kernel
theorem dX7_press_37 : decode cX7_press 37 = .ok (.getfield 26, 3) := by decide +kernel
theorem dX7_press_40 : decode cX7_press 40 = .ok (.dup, 1) := by decide +kernel
theorem dX7_press_41 : decode cX7_press 41 = .ok (.getfield 157, 3) := by decide +kernel
theorem dX7_press_44 : decode cX7_press 44 = .ok (.iconst 1, 1) := by decide +kernel
theorem dX7_press_45 : decode cX7_press 45 = .ok (.iload_n 1, 1) := by decide +kernel
theorem dX7_press_46 : decode cX7_press 46 = .ok (.ishl, 1) := by decide +kernel
theorem dX7_press_47 : decode cX7_press 47 = .ok (.iconst (-1), 1) := by decide +kernel
theorem dX7_press_48 : decode cX7_press 48 = .ok (.ixor, 1) := by decide +kernel
theorem dX7_press_49 : decode cX7_press 49 = .ok (.iand, 1) := by decide +kernel
theorem dX7_press_50 : decode cX7_press 50 = .ok (.putfield 157, 3) := by decide +kernel
theorem dX7_press_53 : decode cX7_press 53 = .ok (.aload_n 0, 1) := by decide +kernel
theorem dX7_press_54 : decode cX7_press 54 = .ok (.getfield 26, 3) := by decide +kernel
theorem dX7_press_57 : decode cX7_press 57 = .ok (.getfield 169, 3) := by decide +kernel
theorem dX7_press_60 : decode cX7_press 60 = .ok (.iload_n 1, 1) := by decide +kernel
theorem dX7_press_61 : decode cX7_press 61 = .ok (.iaload, 1) := by decide +kernel
theorem dX7_press_62 : decode cX7_press 62 = .ok (.ireturn, 1) := by decide +kernel
set_option maxRecDepth 20000 in
theorem ggX7_glue_X7_isWindow : GoodIn wsX7_glue wsX7_isWindow := goodIn_r _ [12, 3, 44, 45, 46, 47, 48, 49, 50, 51, 52, 53, 54, 55, 56, 57, 58, 59, 60, 61, 62] (by decide +kernel) (by decide +kernel)
set_option maxRecDepth 20000 in
theorem gX7_glue_X7_isWindow : GoodIn wsX7_glue (wsV RX7 160 RX7 yX7_isWindow wsX7_isWindow) := goodIn_app (goodIn_of _ (by decide +kernel)) ggX7_glue_X7_isWindow
set_option maxRecDepth 20000 in
theorem ggX7_glue_X7_isWithin : GoodIn wsX7_glue wsX7_isWithin := goodIn_r _ [15] (by decide +kernel) (by decide +kernel)
set_option maxRecDepth 20000 in
theorem gX7_glue_X7_isWithin : GoodIn wsX7_glue (va_wsS RX7 59 yX7_isWithin wsX7_isWithin) := goodIn_app (goodIn_of _ (by decide +kernel)) ggX7_glue_X7_isWithin
set_option maxRecDepth 20000 in
theorem ggX7_glue_X0_keep : GoodIn wsX7_glue wsX0_keep := goodIn_r _ [20, 21, 22, 23, 24, 5, 6, 7, 25, 26, 27, 28, 29, 30, 31, 32, 33, 34, 35, 36, 37, 38, 39, 40, 41, 42, 43, 63, 64, 65, 53, 54, 55, 56, 57, 58, 59, 60, 61, 62] (by decide +kernel) (by decide +kernel)
set_option maxRecDepth 20000 in
theorem gX7_glue_X0_keep : GoodIn wsX7_glue (wsV RX7 151 RX0 yX0_keep wsX0_keep) := goodIn_app (goodIn_of _ (by decide +kernel)) ggX7_glue_X0_keep
theorem dX7_glue_0 : decode cX7_glue 0 = .ok (.aload_n 0, 1) := by decide +kernel
theorem dX7_glue_1 : decode cX7_glue 1 = .ok (.iload_n 1, 1) := by decide +kernel
theorem dX7_glue_2 : decode cX7_glue 2 = .ok (.invokevirtual 160, 3) := by decide +kernel
theorem dX7_glue_5 : decode cX7_glue 5 = .ok (.ifCond .eq 13, 3) := by decide +kernel
theorem dX7_glue_8 : decode cX7_glue 8 = .ok (.iload_n 2, 1) := by decide +kernel
theorem dX7_glue_9 : decode cX7_glue 9 = .ok (.iconst 1, 1) := by decide +kernel
theorem dX7_glue_10 : decode cX7_glue 10 = .ok (.bipush 9, 2) := by decide +kernel
theorem dX7_glue_12 : decode cX7_glue 12 = .ok (.invokestatic 59, 3) := by decide +kernel
theorem dX7_glue_15 : decode cX7_glue 15 = .ok (.ifCond .ne 6, 3) := by decide +kernel
theorem dX7_glue_18 : decode cX7_glue 18 = .ok (.ldc 63, 2) := by decide +kernel
theorem dX7_glue_20 : decode cX7_glue 20 = .ok (.ireturn, 1) := by decide +kernel
theorem dX7_glue_21 : decode cX7_glue 21 = .ok (.aload_n 0, 1) := by decide +kernel
theorem dX7_glue_22 : decode cX7_glue 22 = .ok (.getfield 40, 3) := by decide +kernel
theorem dX7_glue_25 : decode cX7_glue 25 = .ok (.aload_n 0, 1) := by decide +kernel
theorem dX7_glue_26 : decode cX7_glue 26 = .ok (.getfield 26, 3) := by decide +kernel
theorem dX7_glue_29 : decode cX7_glue 29 = .ok (.invokevirtual 151, 3) := by decide +kernel
theorem dX7_glue_32 : decode cX7_glue 32 = .ok (.aload_n 0, 1) := by decide +kernel
theorem dX7_glue_33 : decode cX7_glue 33 = .ok (.getfield 26, 3) := by decide +kernel
theorem dX7_glue_36 : decode cX7_glue 36 = .ok (.getfield 169, 3) := by decide +kernel
theorem dX7_glue_39 : decode cX7_glue 39 = .ok (.iload_n 1, 1) := by decide +kernel
theorem dX7_glue_40 : decode cX7_glue 40 = .ok (.bipush 9, 2) := by decide +kernel
theorem dX7_glue_42 : decode cX7_glue 42 = .ok (.aload_n 0, 1) := by decide +kernel
theorem dX7_glue_43 : decode cX7_glue 43 = .ok (.getfield 26, 3) := by decide +kernel
theorem dX7_glue_46 : decode cX7_glue 46 = .ok (.getfield 169, 3) := by decide +kernel
theorem dX7_glue_49 : decode cX7_glue 49 = .ok (.iload_n 1, 1) := by decide +kernel
theorem dX7_glue_50 : decode cX7_glue 50 = .ok (.iaload, 1) := by decide +kernel
theorem dX7_glue_51 : decode cX7_glue 51 = .ok (.iload_n 2, 1) := by decide +kernel
theorem dX7_glue_52 : decode cX7_glue 52 = .ok (.iadd, 1) := by decide +kernel
theorem dX7_glue_53 : decode cX7_glue 53 = .ok (.invokestatic 172, 3) := by decide +kernel
theorem dX7_glue_56 : decode cX7_glue 56 = .ok (.iastore, 1) := by decide +kernel
theorem dX7_glue_57 : decode cX7_glue 57 = .ok (.aload_n 0, 1) := by decide +kernel
theorem dX7_glue_58 : decode cX7_glue 58 = .ok (.getfield 26, 3) := by decide +kernel
theorem dX7_glue_61 : decode cX7_glue 61 = .ok (.getfield 169, 3) := by decide +kernel
theorem dX7_glue_64 : decode cX7_glue 64 = .ok (.iload_n 1, 1) := by decide +kernel
theorem dX7_glue_65 : decode cX7_glue 65 = .ok (.iaload, 1) := by decide +kernel
theorem dX7_glue_66 : decode cX7_glue 66 = .ok (.ireturn, 1) := by decide +kernel
set_option maxRecDepth 20000 in
theorem ggX7_trade_X7_isWindow : GoodIn wsX7_trade wsX7_isWindow := goodIn_r _ [8, 3, 44, 45, 46, 47, 48, 49, 50, 51, 52, 53, 54, 55, 56, 57, 58, 59, 60, 61, 62] (by decide +kernel) (by decide +kernel)
set_option maxRecDepth 20000 in
theorem gX7_trade_X7_isWindow : GoodIn wsX7_trade (wsV RX7 160 RX7 yX7_isWindow wsX7_isWindow) := goodIn_app (goodIn_of _ (by decide +kernel)) ggX7_trade_X7_isWindow
set_option maxRecDepth 20000 in
theorem ggX7_trade_X0_keep : GoodIn wsX7_trade wsX0_keep := goodIn_r _ [13, 14, 15, 16, 17, 18, 19, 20, 21, 22, 23, 24, 25, 26, 27, 28, 29, 30, 31, 32, 33, 34, 35, 36, 37, 38, 39, 63, 64, 65, 53, 54, 55, 56, 57, 58, 59, 60, 61, 62] (by decide +kernel) (by decide +kernel)
set_option maxRecDepth 20000 in
theorem gX7_trade_X0_keep : GoodIn wsX7_trade (wsV RX7 151 RX0 yX0_keep wsX0_keep) := goodIn_app (goodIn_of _ (by decide +kernel)) ggX7_trade_X0_keep
set_option maxRecDepth 20000 in
theorem ggX7_trade_X4_changeDays : GoodIn wsX7_trade wsX4_changeDays := goodIn_r _ [43, 31, 53, 54, 55, 56, 57, 58, 59, 60, 61, 62] (by decide +kernel) (by decide +kernel)
set_option maxRecDepth 20000 in
theorem gX7_trade_X4_changeDays : GoodIn wsX7_trade (wsV RX7 178 RX4 yX4_changeDays wsX4_changeDays) := goodIn_app (goodIn_of _ (by decide +kernel)) ggX7_trade_X4_changeDays
theorem dX7_trade_0 : decode cX7_trade 0 = .ok (.aload_n 0, 1) := by decide +kernel
theorem dX7_trade_1 : decode cX7_trade 1 = .ok (.iload_n 1, 1) := by decide +kernel
theorem dX7_trade_2 : decode cX7_trade 2 = .ok (.invokevirtual 160, 3) := by decide +kernel
theorem dX7_trade_5 : decode cX7_trade 5 = .ok (.ifCond .eq 16, 3) := by decide +kernel
theorem dX7_trade_8 : decode cX7_trade 8 = .ok (.aload_n 0, 1) := by decide +kernel
theorem dX7_trade_9 : decode cX7_trade 9 = .ok (.iload_n 2, 1) := by decide +kernel
theorem dX7_trade_10 : decode cX7_trade 10 = .ok (.invokevirtual 160, 3) := by decide +kernel
theorem dX7_trade_13 : decode cX7_trade 13 = .ok (.ifCond .eq 8, 3) := by decide +kernel
theorem dX7_trade_16 : decode cX7_trade 16 = .ok (.iload_n 1, 1) := by decide +kernel
theorem dX7_trade_17 : decode cX7_trade 17 = .ok (.iload_n 2, 1) := by decide +kernel
theorem dX7_trade_18 : decode cX7_trade 18 = .ok (.if_icmp .ne 6, 3) := by decide +kernel
theorem dX7_trade_21 : decode cX7_trade 21 = .ok (.ldc 63, 2) := by decide +kernel
theorem dX7_trade_23 : decode cX7_trade 23 = .ok (.ireturn, 1) := by decide +kernel
theorem dX7_trade_24 : decode cX7_trade 24 = .ok (.aload_n 0, 1) := by decide +kernel
theorem dX7_trade_25 : decode cX7_trade 25 = .ok (.getfield 40, 3) := by decide +kernel
theorem dX7_trade_28 : decode cX7_trade 28 = .ok (.aload_n 0, 1) := by decide +kernel
theorem dX7_trade_29 : decode cX7_trade 29 = .ok (.getfield 26, 3) := by decide +kernel
theorem dX7_trade_32 : decode cX7_trade 32 = .ok (.invokevirtual 151, 3) := by decide +kernel
theorem dX7_trade_35 : decode cX7_trade 35 = .ok (.aload_n 0, 1) := by decide +kernel
theorem dX7_trade_36 : decode cX7_trade 36 = .ok (.getfield 26, 3) := by decide +kernel
theorem dX7_trade_39 : decode cX7_trade 39 = .ok (.iload_n 1, 1) := by decide +kernel
theorem dX7_trade_40 : decode cX7_trade 40 = .ok (.iload_n 2, 1) := by decide +kernel
theorem dX7_trade_41 : decode cX7_trade 41 = .ok (.invokevirtual 178, 3) := by decide +kernel
theorem dX7_trade_44 : decode cX7_trade 44 = .ok (.aload_n 0, 1) := by decide +kernel
theorem dX7_trade_45 : decode cX7_trade 45 = .ok (.getfield 26, 3) := by decide +kernel
theorem dX7_trade_48 : decode cX7_trade 48 = .ok (.getfield 182, 3) := by decide +kernel
theorem dX7_trade_51 : decode cX7_trade 51 = .ok (.iload_n 1, 1) := by decide +kernel
theorem dX7_trade_52 : decode cX7_trade 52 = .ok (.iaload, 1) := by decide +kernel
theorem dX7_trade_53 : decode cX7_trade 53 = .ok (.ireturn, 1) := by decide +kernel
set_option maxRecDepth 20000 in
theorem ggX7_sight_X7_isStreetless : GoodIn wsX7_sight wsX7_isStreetless := goodIn_r _ [9, 4, 44, 45, 46, 47, 48, 49, 50, 51, 52, 53, 54, 55, 56, 57, 58, 59, 60, 61, 62] (by decide +kernel) (by decide +kernel)
set_option maxRecDepth 20000 in
theorem gX7_sight_X7_isStreetless : GoodIn wsX7_sight (wsV RX7 143 RX7 yX7_isStreetless wsX7_isStreetless) := goodIn_app (goodIn_of _ (by decide +kernel)) ggX7_sight_X7_isStreetless
set_option maxRecDepth 20000 in
theorem ggX7_sight_X7_isWithin : GoodIn wsX7_sight wsX7_isWithin := goodIn_r _ [12] (by decide +kernel) (by decide +kernel)
set_option maxRecDepth 20000 in
theorem gX7_sight_X7_isWithin : GoodIn wsX7_sight (va_wsS RX7 59 yX7_isWithin wsX7_isWithin) := goodIn_app (goodIn_of _ (by decide +kernel)) ggX7_sight_X7_isWithin
set_option maxRecDepth 20000 in
theorem ggX7_sight_X0_keep : GoodIn wsX7_sight wsX0_keep := goodIn_r _ [17, 18, 19, 20, 21, 22, 23, 24, 25, 26, 27, 28, 29, 30, 31, 32, 33, 34, 35, 36, 37, 38, 39, 40, 41, 42, 43, 63, 64, 65, 53, 54, 55, 56, 57, 58, 59, 60, 61, 62] (by decide +kernel) (by decide +kernel)
set_option maxRecDepth 20000 in
theorem gX7_sight_X0_keep : GoodIn wsX7_sight (wsV RX7 151 RX0 yX0_keep wsX0_keep) := goodIn_app (goodIn_of _ (by decide +kernel)) ggX7_sight_X0_keep
theorem dX7_sight_0 : decode cX7_sight 0 = .ok (.aload_n 0, 1) := by decide +kernel
theorem dX7_sight_1 : decode cX7_sight 1 = .ok (.invokevirtual 143, 3) := by decide +kernel
theorem dX7_sight_4 : decode cX7_sight 4 = .ok (.ifCond .eq 6, 3) := by decide +kernel
theorem dX7_sight_7 : decode cX7_sight 7 = .ok (.ldc 147, 2) := by decide +kernel
theorem dX7_sight_9 : decode cX7_sight 9 = .ok (.ireturn, 1) := by decide +kernel
theorem dX7_sight_10 : decode cX7_sight 10 = .ok (.iload_n 1, 1) := by decide +kernel
theorem dX7_sight_11 : decode cX7_sight 11 = .ok (.iconst 0, 1) := by decide +kernel
theorem dX7_sight_12 : decode cX7_sight 12 = .ok (.iconst 3, 1) := by decide +kernel
theorem dX7_sight_13 : decode cX7_sight 13 = .ok (.invokestatic 59, 3) := by decide +kernel
theorem dX7_sight_16 : decode cX7_sight 16 = .ok (.ifCond .ne 6, 3) := by decide +kernel
theorem dX7_sight_19 : decode cX7_sight 19 = .ok (.ldc 63, 2) := by decide +kernel
theorem dX7_sight_21 : decode cX7_sight 21 = .ok (.ireturn, 1) := by decide +kernel
theorem dX7_sight_22 : decode cX7_sight 22 = .ok (.aload_n 0, 1) := by decide +kernel
theorem dX7_sight_23 : decode cX7_sight 23 = .ok (.getfield 40, 3) := by decide +kernel
theorem dX7_sight_26 : decode cX7_sight 26 = .ok (.aload_n 0, 1) := by decide +kernel
theorem dX7_sight_27 : decode cX7_sight 27 = .ok (.getfield 26, 3) := by decide +kernel
theorem dX7_sight_30 : decode cX7_sight 30 = .ok (.invokevirtual 151, 3) := by decide +kernel
theorem dX7_sight_33 : decode cX7_sight 33 = .ok (.aload_n 0, 1) := by decide +kernel
theorem dX7_sight_34 : decode cX7_sight 34 = .ok (.getfield 26, 3) := by decide +kernel
theorem dX7_sight_37 : decode cX7_sight 37 = .ok (.getfield 185, 3) := by decide +kernel
theorem dX7_sight_40 : decode cX7_sight 40 = .ok (.istore_n 2, 1) := by decide +kernel
theorem dX7_sight_41 : decode cX7_sight 41 = .ok (.aload_n 0, 1) := by decide +kernel
theorem dX7_sight_42 : decode cX7_sight 42 = .ok (.getfield 26, 3) := by decide +kernel
theorem dX7_sight_45 : decode cX7_sight 45 = .ok (.iload_n 1, 1) := by decide +kernel
theorem dX7_sight_46 : decode cX7_sight 46 = .ok (.putfield 185, 3) := by decide +kernel
theorem dX7_sight_49 : decode cX7_sight 49 = .ok (.iload_n 2, 1) := by decide +kernel
theorem dX7_sight_50 : decode cX7_sight 50 = .ok (.ireturn, 1) := by decide +kernel
set_option maxRecDepth 20000 in
theorem ggX7_undo_X0_takeBack : GoodIn wsX7_undo wsX0_takeBack := goodIn_r _ [8, 9, 10, 11, 12, 13, 14, 15, 16, 17, 18, 19, 20, 21, 22, 23, 24, 25, 26, 27, 28, 29, 30, 40, 41, 42, 43, 44, 45, 46, 47, 48, 49, 50, 51, 52] (by decide +kernel) (by decide +kernel)
set_option maxRecDepth 20000 in
theorem gX7_undo_X0_takeBack : GoodIn wsX7_undo (wsV RX7 188 RX0 yX0_takeBack wsX0_takeBack) := goodIn_app (goodIn_of _ (by decide +kernel)) ggX7_undo_X0_takeBack
theorem dX7_undo_0 : decode cX7_undo 0 = .ok (.aload_n 0, 1) := by decide +kernel
theorem dX7_undo_1 : decode cX7_undo 1 = .ok (.getfield 40, 3) := by decide +kernel
theorem dX7_undo_4 : decode cX7_undo 4 = .ok (.aload_n 0, 1) := by decide +kernel
theorem dX7_undo_5 : decode cX7_undo 5 = .ok (.getfield 26, 3) := by decide +kernel
theorem dX7_undo_8 : decode cX7_undo 8 = .ok (.invokevirtual 188, 3) := by decide +kernel
theorem dX7_undo_11 : decode cX7_undo 11 = .ok (.ifCond .ne 6, 3) := by decide +kernel
theorem dX7_undo_14 : decode cX7_undo 14 = .ok (.ldc 147, 2) := by decide +kernel
theorem dX7_undo_16 : decode cX7_undo 16 = .ok (.ireturn, 1) := by decide +kernel
theorem dX7_undo_17 : decode cX7_undo 17 = .ok (.aload_n 0, 1) := by decide +kernel
theorem dX7_undo_18 : decode cX7_undo 18 = .ok (.getfield 40, 3) := by decide +kernel
theorem dX7_undo_21 : decode cX7_undo 21 = .ok (.getfield 192, 3) := by decide +kernel
theorem dX7_undo_24 : decode cX7_undo 24 = .ok (.ireturn, 1) := by decide +kernel
set_option maxRecDepth 20000 in
theorem ggX7_window_X7_isWindow : GoodIn wsX7_window wsX7_isWindow := goodIn_r _ [7, 2, 27, 28, 29, 30, 31, 32, 33, 34, 35, 36, 37, 38, 39, 40, 41, 42, 43, 44, 45] (by decide +kernel) (by decide +kernel)
set_option maxRecDepth 20000 in
theorem gX7_window_X7_isWindow : GoodIn wsX7_window (wsV RX7 160 RX7 yX7_isWindow wsX7_isWindow) := goodIn_app (goodIn_of _ (by decide +kernel)) ggX7_window_X7_isWindow
set_option maxRecDepth 20000 in
theorem ggX7_window_X4_isOpen : GoodIn wsX7_window wsX4_isOpen := goodIn_r _ [12, 13, 36, 37, 38, 39, 40, 41, 42, 43, 44, 45] (by decide +kernel) (by decide +kernel)
set_option maxRecDepth 20000 in
theorem gX7_window_X4_isOpen : GoodIn wsX7_window (wsV RX7 163 RX4 yX4_isOpen wsX4_isOpen) := goodIn_app (goodIn_of _ (by decide +kernel)) ggX7_window_X4_isOpen
set_option maxRecDepth 20000 in
theorem ggX7_window_X4_date : GoodIn wsX7_window wsX4_date := goodIn_r _ [17, 18, 19, 36, 37, 38, 39, 40, 41, 42, 43, 44, 45] (by decide +kernel) (by decide +kernel)
set_option maxRecDepth 20000 in
theorem gX7_window_X4_date : GoodIn wsX7_window (wsV RX7 198 RX4 yX4_date wsX4_date) := goodIn_app (goodIn_of _ (by decide +kernel)) ggX7_window_X4_date
set_option maxRecDepth 20000 in
theorem ggX7_window_X4_wouldOpen : GoodIn wsX7_window wsX4_wouldOpen := goodIn_r _ [23, 24, 25, 26, 13, 36, 37, 38, 39, 40, 41, 42, 43, 44, 45] (by decide +kernel) (by decide +kernel)
set_option maxRecDepth 20000 in
theorem gX7_window_X4_wouldOpen : GoodIn wsX7_window (wsV RX7 202 RX4 yX4_wouldOpen wsX4_wouldOpen) := goodIn_app (goodIn_of _ (by decide +kernel)) ggX7_window_X4_wouldOpen
theorem dX7_window_0 : decode cX7_window 0 = .ok (.aload_n 0, 1) := by decide +kernel
theorem dX7_window_1 : decode cX7_window 1 = .ok (.iload_n 1, 1) := by decide +kernel
theorem dX7_window_2 : decode cX7_window 2 = .ok (.invokevirtual 160, 3) := by decide +kernel
theorem dX7_window_5 : decode cX7_window 5 = .ok (.ifCond .ne 6, 3) := by decide +kernel
theorem dX7_window_8 : decode cX7_window 8 = .ok (.ldc 63, 2) := by decide +kernel
theorem dX7_window_10 : decode cX7_window 10 = .ok (.ireturn, 1) := by decide +kernel
theorem dX7_window_11 : decode cX7_window 11 = .ok (.iload_n 2, 1) := by decide +kernel
theorem dX7_window_12 : decode cX7_window 12 = .ok (.tableswitch 121 0 5 #[40, 50, 60, 70, 87, 97], 40) := by decide +kernel
theorem dX7_window_52 : decode cX7_window 52 = .ok (.aload_n 0, 1) := by decide +kernel
theorem dX7_window_53 : decode cX7_window 53 = .ok (.getfield 26, 3) := by decide +kernel
theorem dX7_window_56 : decode cX7_window 56 = .ok (.getfield 182, 3) := by decide +kernel
theorem dX7_window_59 : decode cX7_window 59 = .ok (.iload_n 1, 1) := by decide +kernel
theorem dX7_window_60 : decode cX7_window 60 = .ok (.iaload, 1) := by decide +kernel
theorem dX7_window_61 : decode cX7_window 61 = .ok (.ireturn, 1) := by decide +kernel
theorem dX7_window_62 : decode cX7_window 62 = .ok (.aload_n 0, 1) := by decide +kernel
theorem dX7_window_63 : decode cX7_window 63 = .ok (.getfield 26, 3) := by decide +kernel
theorem dX7_window_66 : decode cX7_window 66 = .ok (.getfield 166, 3) := by decide +kernel
theorem dX7_window_69 : decode cX7_window 69 = .ok (.iload_n 1, 1) := by decide +kernel
theorem dX7_window_70 : decode cX7_window 70 = .ok (.iaload, 1) := by decide +kernel
theorem dX7_window_71 : decode cX7_window 71 = .ok (.ireturn, 1) := by decide +kernel
theorem dX7_window_72 : decode cX7_window 72 = .ok (.aload_n 0, 1) := by decide +kernel
theorem dX7_window_73 : decode cX7_window 73 = .ok (.getfield 26, 3) := by decide +kernel
theorem dX7_window_76 : decode cX7_window 76 = .ok (.getfield 169, 3) := by decide +kernel
theorem dX7_window_79 : decode cX7_window 79 = .ok (.iload_n 1, 1) := by decide +kernel
theorem dX7_window_80 : decode cX7_window 80 = .ok (.iaload, 1) := by decide +kernel
theorem dX7_window_81 : decode cX7_window 81 = .ok (.ireturn, 1) := by decide +kernel
theorem dX7_window_82 : decode cX7_window 82 = .ok (.aload_n 0, 1) := by decide +kernel
theorem dX7_window_83 : decode cX7_window 83 = .ok (.getfield 26, 3) := by decide +kernel
theorem dX7_window_86 : decode cX7_window 86 = .ok (.iload_n 1, 1) := by decide +kernel
theorem dX7_window_87 : decode cX7_window 87 = .ok (.invokevirtual 163, 3) := by decide +kernel
theorem dX7_window_90 : decode cX7_window 90 = .ok (.ifCond .eq 7, 3) := by decide +kernel
theorem dX7_window_93 : decode cX7_window 93 = .ok (.iconst 1, 1) := by decide +kernel
theorem dX7_window_94 : decode cX7_window 94 = .ok (.goto 4, 3) := by decide +kernel
theorem dX7_window_97 : decode cX7_window 97 = .ok (.iconst 0, 1) := by decide +kernel
theorem dX7_window_98 : decode cX7_window 98 = .ok (.ireturn, 1) := by decide +kernel
theorem dX7_window_99 : decode cX7_window 99 = .ok (.aload_n 0, 1) := by decide +kernel
theorem dX7_window_100 : decode cX7_window 100 = .ok (.getfield 26, 3) := by decide +kernel
theorem dX7_window_103 : decode cX7_window 103 = .ok (.getfield 195, 3) := by decide +kernel
theorem dX7_window_106 : decode cX7_window 106 = .ok (.iload_n 1, 1) := by decide +kernel
theorem dX7_window_107 : decode cX7_window 107 = .ok (.iaload, 1) := by decide +kernel
theorem dX7_window_108 : decode cX7_window 108 = .ok (.ireturn, 1) := by decide +kernel
theorem dX7_window_109 : decode cX7_window 109 = .ok (.aload_n 0, 1) := by decide +kernel
theorem dX7_window_110 : decode cX7_window 110 = .ok (.getfield 26, 3) := by decide +kernel
theorem dX7_window_113 : decode cX7_window 113 = .ok (.iload_n 1, 1) := by decide +kernel
theorem dX7_window_114 : decode cX7_window 114 = .ok (.aload_n 0, 1) := by decide +kernel
theorem dX7_window_115 : decode cX7_window 115 = .ok (.getfield 26, 3) := by decide +kernel
theorem dX7_window_118 : decode cX7_window 118 = .ok (.invokevirtual 198, 3) := by decide +kernel
theorem dX7_window_121 : decode cX7_window 121 = .ok (.invokevirtual 202, 3) := by decide +kernel
theorem dX7_window_124 : decode cX7_window 124 = .ok (.ifCond .eq 7, 3) := by decide +kernel
theorem dX7_window_127 : decode cX7_window 127 = .ok (.iconst 1, 1) := by decide +kernel
theorem dX7_window_128 : decode cX7_window 128 = .ok (.goto 4, 3) := by decide +kernel
theorem dX7_window_131 : decode cX7_window 131 = .ok (.iconst 0, 1) := by decide +kernel
theorem dX7_window_132 : decode cX7_window 132 = .ok (.ireturn, 1) := by decide +kernel
theorem dX7_window_133 : decode cX7_window 133 = .ok (.ldc 63, 2) := by decide +kernel
theorem dX7_window_135 : decode cX7_window 135 = .ok (.ireturn, 1) := by decide +kernel
set_option maxRecDepth 20000 in
theorem ggX7_opens_X7_isStreetless : GoodIn wsX7_opens wsX7_isStreetless := goodIn_r _ [9, 4, 82, 83, 84, 85, 86, 87, 88, 89, 90, 91, 92, 93, 94, 95, 96, 97, 98, 99, 100] (by decide +kernel) (by decide +kernel)
set_option maxRecDepth 20000 in
theorem gX7_opens_X7_isStreetless : GoodIn wsX7_opens (wsV RX7 143 RX7 yX7_isStreetless wsX7_isStreetless) := goodIn_app (goodIn_of _ (by decide +kernel)) ggX7_opens_X7_isStreetless
set_option maxRecDepth 20000 in
theorem ggX7_opens_X7_isWithin : GoodIn wsX7_opens wsX7_isWithin := goodIn_r _ [12] (by decide +kernel) (by decide +kernel)
set_option maxRecDepth 20000 in
theorem gX7_opens_X7_isWithin : GoodIn wsX7_opens (va_wsS RX7 59 yX7_isWithin wsX7_isWithin) := goodIn_app (goodIn_of _ (by decide +kernel)) ggX7_opens_X7_isWithin
set_option maxRecDepth 20000 in
theorem ggX7_opens_X1_behind : GoodIn wsX7_opens wsX1_behind := goodIn_r _ [17, 18, 19, 20, 21, 22, 23, 24, 25, 26, 27, 28, 29, 30, 31, 32, 33, 34, 35, 36, 37, 38, 39, 40, 16, 41, 42, 43, 44, 45, 46, 47, 48, 49, 50, 51, 52, 53, 54, 55, 56, 57, 58, 59, 60, 61, 62, 63, 64, 65, 66, 67, 68, 69, 70, 71, 72, 73, 74, 75, 76, 77, 78, 79, 80, 81, 101, 102, 91, 92, 93, 94, 95, 96, 97, 98, 99, 100] (by decide +kernel) (by decide +kernel)
set_option maxRecDepth 20000 in
theorem gX7_opens_X1_behind : GoodIn wsX7_opens (wsV RX7 206 RX1 yX1_behind wsX1_behind) := goodIn_app (goodIn_of _ (by decide +kernel)) ggX7_opens_X1_behind
theorem dX7_opens_0 : decode cX7_opens 0 = .ok (.aload_n 0, 1) := by decide +kernel
theorem dX7_opens_1 : decode cX7_opens 1 = .ok (.invokevirtual 143, 3) := by decide +kernel
theorem dX7_opens_4 : decode cX7_opens 4 = .ok (.ifCond .eq 6, 3) := by decide +kernel
theorem dX7_opens_7 : decode cX7_opens 7 = .ok (.ldc 147, 2) := by decide +kernel
theorem dX7_opens_9 : decode cX7_opens 9 = .ok (.ireturn, 1) := by decide +kernel
theorem dX7_opens_10 : decode cX7_opens 10 = .ok (.iload_n 1, 1) := by decide +kernel
theorem dX7_opens_11 : decode cX7_opens 11 = .ok (.iconst 0, 1) := by decide +kernel
theorem dX7_opens_12 : decode cX7_opens 12 = .ok (.bipush 60, 2) := by decide +kernel
theorem dX7_opens_14 : decode cX7_opens 14 = .ok (.invokestatic 59, 3) := by decide +kernel
theorem dX7_opens_17 : decode cX7_opens 17 = .ok (.ifCond .ne 6, 3) := by decide +kernel
theorem dX7_opens_20 : decode cX7_opens 20 = .ok (.ldc 63, 2) := by decide +kernel
theorem dX7_opens_22 : decode cX7_opens 22 = .ok (.ireturn, 1) := by decide +kernel
theorem dX7_opens_23 : decode cX7_opens 23 = .ok (.aload_n 0, 1) := by decide +kernel
theorem dX7_opens_24 : decode cX7_opens 24 = .ok (.getfield 33, 3) := by decide +kernel
theorem dX7_opens_27 : decode cX7_opens 27 = .ok (.aload_n 0, 1) := by decide +kernel
theorem dX7_opens_28 : decode cX7_opens 28 = .ok (.getfield 26, 3) := by decide +kernel
theorem dX7_opens_31 : decode cX7_opens 31 = .ok (.iload_n 1, 1) := by decide +kernel
theorem dX7_opens_32 : decode cX7_opens 32 = .ok (.invokevirtual 206, 3) := by decide +kernel
theorem dX7_opens_35 : decode cX7_opens 35 = .ok (.getfield 157, 3) := by decide +kernel
theorem dX7_opens_38 : decode cX7_opens 38 = .ok (.ireturn, 1) := by decide +kernel
set_option maxRecDepth 20000 in
theorem ggX7_ahead_X7_isWindow : GoodIn wsX7_ahead wsX7_isWindow := goodIn_r _ [8, 3, 84, 85, 86, 87, 88, 89, 90, 91, 92, 93, 94, 95, 96, 97, 98, 99, 100, 101, 102] (by decide +kernel) (by decide +kernel)
set_option maxRecDepth 20000 in
theorem gX7_ahead_X7_isWindow : GoodIn wsX7_ahead (wsV RX7 160 RX7 yX7_isWindow wsX7_isWindow) := goodIn_app (goodIn_of _ (by decide +kernel)) ggX7_ahead_X7_isWindow
set_option maxRecDepth 20000 in
theorem ggX7_ahead_X7_isWithin : GoodIn wsX7_ahead wsX7_isWithin := goodIn_r _ [11] (by decide +kernel) (by decide +kernel)
set_option maxRecDepth 20000 in
theorem gX7_ahead_X7_isWithin : GoodIn wsX7_ahead (va_wsS RX7 59 yX7_isWithin wsX7_isWithin) := goodIn_app (goodIn_of _ (by decide +kernel)) ggX7_ahead_X7_isWithin
set_option maxRecDepth 20000 in
theorem ggX7_ahead_X7_isEither : GoodIn wsX7_ahead wsX7_isEither := goodIn_r _ [14] (by decide +kernel) (by decide +kernel)
set_option maxRecDepth 20000 in
theorem gX7_ahead_X7_isEither : GoodIn wsX7_ahead (va_wsS RX7 210 yX7_isEither wsX7_isEither) := goodIn_app (goodIn_of _ (by decide +kernel)) ggX7_ahead_X7_isEither
set_option maxRecDepth 20000 in
theorem ggX7_ahead_X1_behind : GoodIn wsX7_ahead wsX1_behind := goodIn_r _ [19, 20, 21, 22, 23, 24, 25, 26, 27, 28, 29, 30, 31, 32, 33, 34, 35, 36, 37, 38, 39, 40, 41, 42, 18, 43, 44, 45, 46, 47, 48, 49, 50, 51, 52, 53, 54, 55, 56, 57, 58, 59, 60, 61, 62, 63, 64, 65, 66, 67, 68, 69, 70, 71, 72, 73, 74, 75, 76, 77, 78, 79, 80, 81, 82, 83, 103, 104, 93, 94, 95, 96, 97, 98, 99, 100, 101, 102] (by decide +kernel) (by decide +kernel)
set_option maxRecDepth 20000 in
theorem gX7_ahead_X1_behind : GoodIn wsX7_ahead (wsV RX7 206 RX1 yX1_behind wsX1_behind) := goodIn_app (goodIn_of _ (by decide +kernel)) ggX7_ahead_X1_behind
theorem dX7_ahead_0 : decode cX7_ahead 0 = .ok (.aload_n 0, 1) := by decide +kernel
theorem dX7_ahead_1 : decode cX7_ahead 1 = .ok (.iload_n 1, 1) := by decide +kernel
theorem dX7_ahead_2 : decode cX7_ahead 2 = .ok (.invokevirtual 160, 3) := by decide +kernel
theorem dX7_ahead_5 : decode cX7_ahead 5 = .ok (.ifCond .eq 20, 3) := by decide +kernel
theorem dX7_ahead_8 : decode cX7_ahead 8 = .ok (.iload_n 2, 1) := by decide +kernel
theorem dX7_ahead_9 : decode cX7_ahead 9 = .ok (.iconst 0, 1) := by decide +kernel
theorem dX7_ahead_10 : decode cX7_ahead 10 = .ok (.bipush 60, 2) := by decide +kernel
theorem dX7_ahead_12 : decode cX7_ahead 12 = .ok (.invokestatic 59, 3) := by decide +kernel
theorem dX7_ahead_15 : decode cX7_ahead 15 = .ok (.ifCond .eq 10, 3) := by decide +kernel
theorem dX7_ahead_18 : decode cX7_ahead 18 = .ok (.iload_n 3, 1) := by decide +kernel
theorem dX7_ahead_19 : decode cX7_ahead 19 = .ok (.invokestatic 210, 3) := by decide +kernel
theorem dX7_ahead_22 : decode cX7_ahead 22 = .ok (.ifCond .ne 6, 3) := by decide +kernel
theorem dX7_ahead_25 : decode cX7_ahead 25 = .ok (.ldc 63, 2) := by decide +kernel
theorem dX7_ahead_27 : decode cX7_ahead 27 = .ok (.ireturn, 1) := by decide +kernel
theorem dX7_ahead_28 : decode cX7_ahead 28 = .ok (.aload_n 0, 1) := by decide +kernel
theorem dX7_ahead_29 : decode cX7_ahead 29 = .ok (.getfield 33, 3) := by decide +kernel
theorem dX7_ahead_32 : decode cX7_ahead 32 = .ok (.aload_n 0, 1) := by decide +kernel
theorem dX7_ahead_33 : decode cX7_ahead 33 = .ok (.getfield 26, 3) := by decide +kernel
theorem dX7_ahead_36 : decode cX7_ahead 36 = .ok (.iload_n 2, 1) := by decide +kernel
theorem dX7_ahead_37 : decode cX7_ahead 37 = .ok (.invokevirtual 206, 3) := by decide +kernel
theorem dX7_ahead_40 : decode cX7_ahead 40 = .ok (.astore 4, 2) := by decide +kernel
theorem dX7_ahead_42 : decode cX7_ahead 42 = .ok (.iload_n 3, 1) := by decide +kernel
theorem dX7_ahead_43 : decode cX7_ahead 43 = .ok (.ifCond .ne 13, 3) := by decide +kernel
theorem dX7_ahead_46 : decode cX7_ahead 46 = .ok (.aload 4, 2) := by decide +kernel
theorem dX7_ahead_48 : decode cX7_ahead 48 = .ok (.getfield 169, 3) := by decide +kernel
theorem dX7_ahead_51 : decode cX7_ahead 51 = .ok (.iload_n 1, 1) := by decide +kernel
theorem dX7_ahead_52 : decode cX7_ahead 52 = .ok (.iaload, 1) := by decide +kernel
theorem dX7_ahead_53 : decode cX7_ahead 53 = .ok (.goto 10, 3) := by decide +kernel
theorem dX7_ahead_56 : decode cX7_ahead 56 = .ok (.aload 4, 2) := by decide +kernel
theorem dX7_ahead_58 : decode cX7_ahead 58 = .ok (.getfield 195, 3) := by decide +kernel
theorem dX7_ahead_61 : decode cX7_ahead 61 = .ok (.iload_n 1, 1) := by decide +kernel
theorem dX7_ahead_62 : decode cX7_ahead 62 = .ok (.iaload, 1) := by decide +kernel
theorem dX7_ahead_63 : decode cX7_ahead 63 = .ok (.ireturn, 1) := by decide +kernel
set_option maxRecDepth 20000 in
theorem ggX7_spots_X7_isWindow : GoodIn wsX7_spots wsX7_isWindow := goodIn_r _ [8, 3, 78, 79, 80, 81, 82, 83, 84, 85, 86, 87, 88, 89, 90, 91, 92, 93, 94, 95, 96] (by decide +kernel) (by decide +kernel)
set_option maxRecDepth 20000 in
theorem gX7_spots_X7_isWindow : GoodIn wsX7_spots (wsV RX7 160 RX7 yX7_isWindow wsX7_isWindow) := goodIn_app (goodIn_of _ (by decide +kernel)) ggX7_spots_X7_isWindow
set_option maxRecDepth 20000 in
theorem ggX7_spots_X7_isWithin : GoodIn wsX7_spots wsX7_isWithin := goodIn_r _ [11] (by decide +kernel) (by decide +kernel)
set_option maxRecDepth 20000 in
theorem gX7_spots_X7_isWithin : GoodIn wsX7_spots (va_wsS RX7 59 yX7_isWithin wsX7_isWithin) := goodIn_app (goodIn_of _ (by decide +kernel)) ggX7_spots_X7_isWithin
set_option maxRecDepth 20000 in
theorem ggX7_spots_X1_turnsTillSeen : GoodIn wsX7_spots wsX1_turnsTillSeen := goodIn_r _ [16, 17, 18, 19, 20, 21, 22, 23, 24, 25, 26, 27, 28, 29, 30, 31, 32, 33, 34, 35, 36, 37, 38, 39, 40, 41, 42, 43, 44, 45, 46, 47, 48, 49, 50, 51, 52, 53, 54, 55, 56, 57, 58, 59, 60, 61, 62, 63, 64, 65, 66, 67, 68, 69, 70, 71, 72, 73, 74, 75, 76, 77, 97, 98, 87, 88, 89, 90, 91, 92, 93, 94, 95, 96] (by decide +kernel) (by decide +kernel)
set_option maxRecDepth 20000 in
theorem gX7_spots_X1_turnsTillSeen : GoodIn wsX7_spots (wsV RX7 213 RX1 yX1_turnsTillSeen wsX1_turnsTillSeen) := goodIn_app (goodIn_of _ (by decide +kernel)) ggX7_spots_X1_turnsTillSeen
theorem dX7_spots_0 : decode cX7_spots 0 = .ok (.aload_n 0, 1) := by decide +kernel
theorem dX7_spots_1 : decode cX7_spots 1 = .ok (.iload_n 1, 1) := by decide +kernel
theorem dX7_spots_2 : decode cX7_spots 2 = .ok (.invokevirtual 160, 3) := by decide +kernel
theorem dX7_spots_5 : decode cX7_spots 5 = .ok (.ifCond .eq 13, 3) := by decide +kernel
theorem dX7_spots_8 : decode cX7_spots 8 = .ok (.iload_n 2, 1) := by decide +kernel
theorem dX7_spots_9 : decode cX7_spots 9 = .ok (.iconst 0, 1) := by decide +kernel
theorem dX7_spots_10 : decode cX7_spots 10 = .ok (.bipush 9, 2) := by decide +kernel
theorem dX7_spots_12 : decode cX7_spots 12 = .ok (.invokestatic 59, 3) := by decide +kernel
theorem dX7_spots_15 : decode cX7_spots 15 = .ok (.ifCond .ne 6, 3) := by decide +kernel
theorem dX7_spots_18 : decode cX7_spots 18 = .ok (.ldc 63, 2) := by decide +kernel
theorem dX7_spots_20 : decode cX7_spots 20 = .ok (.ireturn, 1) := by decide +kernel
theorem dX7_spots_21 : decode cX7_spots 21 = .ok (.aload_n 0, 1) := by decide +kernel
theorem dX7_spots_22 : decode cX7_spots 22 = .ok (.getfield 33, 3) := by decide +kernel
theorem dX7_spots_25 : decode cX7_spots 25 = .ok (.aload_n 0, 1) := by decide +kernel
theorem dX7_spots_26 : decode cX7_spots 26 = .ok (.getfield 26, 3) := by decide +kernel
theorem dX7_spots_29 : decode cX7_spots 29 = .ok (.iload_n 1, 1) := by decide +kernel
theorem dX7_spots_30 : decode cX7_spots 30 = .ok (.iload_n 2, 1) := by decide +kernel
theorem dX7_spots_31 : decode cX7_spots 31 = .ok (.invokevirtual 213, 3) := by decide +kernel
theorem dX7_spots_34 : decode cX7_spots 34 = .ok (.ireturn, 1) := by decide +kernel
set_option maxRecDepth 20000 in
theorem ggX7_off_X7_isStreetless : GoodIn wsX7_off wsX7_isStreetless := goodIn_r _ [9, 4, 85, 86, 87, 88, 89, 90, 91, 92, 93, 96, 97, 98, 99, 100, 101, 102, 103, 104, 105] (by decide +kernel) (by decide +kernel)
set_option maxRecDepth 20000 in
theorem gX7_off_X7_isStreetless : GoodIn wsX7_off (wsV RX7 143 RX7 yX7_isStreetless wsX7_isStreetless) := goodIn_app (goodIn_of _ (by decide +kernel)) ggX7_off_X7_isStreetless
set_option maxRecDepth 20000 in
theorem ggX7_off_X7_isEither : GoodIn wsX7_off wsX7_isEither := goodIn_r _ [12] (by decide +kernel) (by decide +kernel)
set_option maxRecDepth 20000 in
theorem gX7_off_X7_isEither : GoodIn wsX7_off (va_wsS RX7 210 yX7_isEither wsX7_isEither) := goodIn_app (goodIn_of _ (by decide +kernel)) ggX7_off_X7_isEither
set_option maxRecDepth 20000 in
theorem ggX7_off_X1_turnsTillBare : GoodIn wsX7_off wsX1_turnsTillBare := goodIn_r _ [17, 18, 19, 20, 21, 22, 23, 24, 25, 26, 27, 28, 29, 30, 31, 32, 33, 34, 35, 36, 37, 38, 39, 40, 41, 42, 43, 44, 45, 46, 47, 48, 49, 50, 51, 52, 53, 54, 55, 56, 57, 58, 59, 60, 61, 62, 63, 64, 65, 66, 67, 68, 69, 70, 71, 72, 73, 74, 75, 76, 77, 78, 79, 80, 81, 82, 83, 94, 95, 96, 97, 98, 99, 100, 101, 102, 103, 104, 105] (by decide +kernel) (by decide +kernel)
set_option maxRecDepth 20000 in
theorem gX7_off_X1_turnsTillBare : GoodIn wsX7_off (wsV RX7 217 RX1 yX1_turnsTillBare wsX1_turnsTillBare) := goodIn_app (goodIn_of _ (by decide +kernel)) ggX7_off_X1_turnsTillBare
set_option maxRecDepth 20000 in
theorem ggX7_off_X4_firstBare : GoodIn wsX7_off wsX4_firstBare := goodIn_r _ [42, 34, 32, 43, 96, 97, 98, 99, 100, 101, 102, 103, 104, 105] (by decide +kernel) (by decide +kernel)
set_option maxRecDepth 20000 in
theorem gX7_off_X4_firstBare : GoodIn wsX7_off (wsV RX7 221 RX4 yX4_firstBare wsX4_firstBare) := goodIn_app (goodIn_of _ (by decide +kernel)) ggX7_off_X4_firstBare
theorem dX7_off_0 : decode cX7_off 0 = .ok (.aload_n 0, 1) := by decide +kernel
theorem dX7_off_1 : decode cX7_off 1 = .ok (.invokevirtual 143, 3) := by decide +kernel
theorem dX7_off_4 : decode cX7_off 4 = .ok (.ifCond .eq 6, 3) := by decide +kernel
theorem dX7_off_7 : decode cX7_off 7 = .ok (.ldc 147, 2) := by decide +kernel
theorem dX7_off_9 : decode cX7_off 9 = .ok (.ireturn, 1) := by decide +kernel
theorem dX7_off_10 : decode cX7_off 10 = .ok (.iload_n 1, 1) := by decide +kernel
theorem dX7_off_11 : decode cX7_off 11 = .ok (.invokestatic 210, 3) := by decide +kernel
theorem dX7_off_14 : decode cX7_off 14 = .ok (.ifCond .ne 6, 3) := by decide +kernel
theorem dX7_off_17 : decode cX7_off 17 = .ok (.ldc 63, 2) := by decide +kernel
theorem dX7_off_19 : decode cX7_off 19 = .ok (.ireturn, 1) := by decide +kernel
theorem dX7_off_20 : decode cX7_off 20 = .ok (.aload_n 0, 1) := by decide +kernel
theorem dX7_off_21 : decode cX7_off 21 = .ok (.getfield 33, 3) := by decide +kernel
theorem dX7_off_24 : decode cX7_off 24 = .ok (.aload_n 0, 1) := by decide +kernel
theorem dX7_off_25 : decode cX7_off 25 = .ok (.getfield 26, 3) := by decide +kernel
theorem dX7_off_28 : decode cX7_off 28 = .ok (.invokevirtual 217, 3) := by decide +kernel
theorem dX7_off_31 : decode cX7_off 31 = .ok (.istore_n 2, 1) := by decide +kernel
theorem dX7_off_32 : decode cX7_off 32 = .ok (.iload_n 1, 1) := by decide +kernel
theorem dX7_off_33 : decode cX7_off 33 = .ok (.ifCond .ne 16, 3) := by decide +kernel
theorem dX7_off_36 : decode cX7_off 36 = .ok (.aload_n 0, 1) := by decide +kernel
theorem dX7_off_37 : decode cX7_off 37 = .ok (.getfield 33, 3) := by decide +kernel
theorem dX7_off_40 : decode cX7_off 40 = .ok (.getfield 110, 3) := by decide +kernel
theorem dX7_off_43 : decode cX7_off 43 = .ok (.invokevirtual 221, 3) := by decide +kernel
theorem dX7_off_46 : decode cX7_off 46 = .ok (.goto 4, 3) := by decide +kernel
theorem dX7_off_49 : decode cX7_off 49 = .ok (.iload_n 2, 1) := by decide +kernel
theorem dX7_off_50 : decode cX7_off 50 = .ok (.ireturn, 1) := by decide +kernel
set_option maxRecDepth 20000 in
theorem ggX7_shut_X7_isWindow : GoodIn wsX7_shut wsX7_isWindow := goodIn_r _ [9, 3, 104, 105, 106, 107, 108, 109, 110, 111, 112, 113, 114, 115, 116, 117, 118, 119, 120, 121, 122] (by decide +kernel) (by decide +kernel)
set_option maxRecDepth 20000 in
theorem gX7_shut_X7_isWindow : GoodIn wsX7_shut (wsV RX7 160 RX7 yX7_isWindow wsX7_isWindow) := goodIn_app (goodIn_of _ (by decide +kernel)) ggX7_shut_X7_isWindow
set_option maxRecDepth 20000 in
theorem ggX7_shut_X7_isWithin : GoodIn wsX7_shut wsX7_isWithin := goodIn_r _ [12] (by decide +kernel) (by decide +kernel)
set_option maxRecDepth 20000 in
theorem gX7_shut_X7_isWithin : GoodIn wsX7_shut (va_wsS RX7 59 yX7_isWithin wsX7_isWithin) := goodIn_app (goodIn_of _ (by decide +kernel)) ggX7_shut_X7_isWithin
set_option maxRecDepth 20000 in
theorem ggX7_shut_X7_isEither : GoodIn wsX7_shut wsX7_isEither := goodIn_r _ [15] (by decide +kernel) (by decide +kernel)
set_option maxRecDepth 20000 in
theorem gX7_shut_X7_isEither : GoodIn wsX7_shut (va_wsS RX7 210 yX7_isEither wsX7_isEither) := goodIn_app (goodIn_of _ (by decide +kernel)) ggX7_shut_X7_isEither
set_option maxRecDepth 20000 in
theorem ggX7_shut_X1_fewestGlued : GoodIn wsX7_shut wsX1_fewestGlued := goodIn_r _ [20, 21, 22, 23, 24, 25, 26, 27, 28, 29, 30, 31, 32, 33, 34, 35, 36, 37, 38, 39, 40, 41, 42, 43, 44, 45, 46, 47, 48, 49, 50, 51, 52, 53, 54, 55, 56, 19, 57, 58, 59, 60, 61, 62, 63, 64, 65, 66, 67, 68, 69, 70, 71, 72, 73, 74, 75, 76, 77, 78, 79, 80, 81, 82, 83, 84, 85, 86, 87, 88, 89, 90, 91, 92, 93, 94, 95, 96, 97, 98, 99, 100, 101, 102, 113, 114, 115, 116, 117, 118, 119, 120, 121, 122, 123, 124] (by decide +kernel) (by decide +kernel)
set_option maxRecDepth 20000 in
theorem gX7_shut_X1_fewestGlued : GoodIn wsX7_shut (wsV RX7 224 RX1 yX1_fewestGlued wsX1_fewestGlued) := goodIn_app (goodIn_of _ (by decide +kernel)) ggX7_shut_X1_fewestGlued
set_option maxRecDepth 20000 in
theorem ggX7_shut_J6_bitCount_0f7a4 : GoodIn wsX7_shut wsJ6_bitCount_0f7a4 := goodIn_r _ [50, 51, 52, 53] (by decide +kernel) (by decide +kernel)
set_option maxRecDepth 20000 in
theorem gX7_shut_J6_bitCount_0f7a4 : GoodIn wsX7_shut (va_wsS RX7 228 yJ6_bitCount_0f7a4 wsJ6_bitCount_0f7a4) := goodIn_app (goodIn_of _ (by decide +kernel)) ggX7_shut_J6_bitCount_0f7a4
theorem dX7_shut_0 : decode cX7_shut 0 = .ok (.aload_n 0, 1) := by decide +kernel
theorem dX7_shut_1 : decode cX7_shut 1 = .ok (.iload_n 1, 1) := by decide +kernel
theorem dX7_shut_2 : decode cX7_shut 2 = .ok (.invokevirtual 160, 3) := by decide +kernel
theorem dX7_shut_5 : decode cX7_shut 5 = .ok (.ifCond .eq 20, 3) := by decide +kernel
theorem dX7_shut_8 : decode cX7_shut 8 = .ok (.iload_n 2, 1) := by decide +kernel
theorem dX7_shut_9 : decode cX7_shut 9 = .ok (.iconst 1, 1) := by decide +kernel
theorem dX7_shut_10 : decode cX7_shut 10 = .ok (.bipush 24, 2) := by decide +kernel
theorem dX7_shut_12 : decode cX7_shut 12 = .ok (.invokestatic 59, 3) := by decide +kernel
theorem dX7_shut_15 : decode cX7_shut 15 = .ok (.ifCond .eq 10, 3) := by decide +kernel
theorem dX7_shut_18 : decode cX7_shut 18 = .ok (.iload_n 3, 1) := by decide +kernel
theorem dX7_shut_19 : decode cX7_shut 19 = .ok (.invokestatic 210, 3) := by decide +kernel
theorem dX7_shut_22 : decode cX7_shut 22 = .ok (.ifCond .ne 6, 3) := by decide +kernel
theorem dX7_shut_25 : decode cX7_shut 25 = .ok (.ldc 63, 2) := by decide +kernel
theorem dX7_shut_27 : decode cX7_shut 27 = .ok (.ireturn, 1) := by decide +kernel
theorem dX7_shut_28 : decode cX7_shut 28 = .ok (.aload_n 0, 1) := by decide +kernel
theorem dX7_shut_29 : decode cX7_shut 29 = .ok (.getfield 33, 3) := by decide +kernel
theorem dX7_shut_32 : decode cX7_shut 32 = .ok (.aload_n 0, 1) := by decide +kernel
theorem dX7_shut_33 : decode cX7_shut 33 = .ok (.getfield 26, 3) := by decide +kernel
theorem dX7_shut_36 : decode cX7_shut 36 = .ok (.iload_n 1, 1) := by decide +kernel
theorem dX7_shut_37 : decode cX7_shut 37 = .ok (.iload_n 2, 1) := by decide +kernel
theorem dX7_shut_38 : decode cX7_shut 38 = .ok (.invokevirtual 224, 3) := by decide +kernel
theorem dX7_shut_41 : decode cX7_shut 41 = .ok (.istore 4, 2) := by decide +kernel
theorem dX7_shut_43 : decode cX7_shut 43 = .ok (.iload 4, 2) := by decide +kernel
theorem dX7_shut_45 : decode cX7_shut 45 = .ok (.ldc 227, 2) := by decide +kernel
theorem dX7_shut_47 : decode cX7_shut 47 = .ok (.if_icmp .ne 6, 3) := by decide +kernel
theorem dX7_shut_50 : decode cX7_shut 50 = .ok (.ldc 227, 2) := by decide +kernel
theorem dX7_shut_52 : decode cX7_shut 52 = .ok (.ireturn, 1) := by decide +kernel
theorem dX7_shut_53 : decode cX7_shut 53 = .ok (.iload_n 3, 1) := by decide +kernel
theorem dX7_shut_54 : decode cX7_shut 54 = .ok (.ifCond .ne 11, 3) := by decide +kernel
theorem dX7_shut_57 : decode cX7_shut 57 = .ok (.iload 4, 2) := by decide +kernel
theorem dX7_shut_59 : decode cX7_shut 59 = .ok (.invokestatic 228, 3) := by decide +kernel
theorem dX7_shut_62 : decode cX7_shut 62 = .ok (.goto 5, 3) := by decide +kernel
theorem dX7_shut_65 : decode cX7_shut 65 = .ok (.iload 4, 2) := by decide +kernel
theorem dX7_shut_67 : decode cX7_shut 67 = .ok (.ireturn, 1) := by decide +kernel
set_option maxRecDepth 20000 in
theorem ggX7_trades_X7_isWindow : GoodIn wsX7_trades wsX7_isWindow := goodIn_r _ [8, 3, 101, 102, 103, 104, 105, 106, 107, 108, 109, 112, 113, 114, 115, 116, 117, 118, 119, 120, 121] (by decide +kernel) (by decide +kernel)
set_option maxRecDepth 20000 in
theorem gX7_trades_X7_isWindow : GoodIn wsX7_trades (wsV RX7 160 RX7 yX7_isWindow wsX7_isWindow) := goodIn_app (goodIn_of _ (by decide +kernel)) ggX7_trades_X7_isWindow
set_option maxRecDepth 20000 in
theorem ggX7_trades_X7_isWithin : GoodIn wsX7_trades wsX7_isWithin := goodIn_r _ [11] (by decide +kernel) (by decide +kernel)
set_option maxRecDepth 20000 in
theorem gX7_trades_X7_isWithin : GoodIn wsX7_trades (va_wsS RX7 59 yX7_isWithin wsX7_isWithin) := goodIn_app (goodIn_of _ (by decide +kernel)) ggX7_trades_X7_isWithin
set_option maxRecDepth 20000 in
theorem ggX7_trades_X7_isEither : GoodIn wsX7_trades wsX7_isEither := goodIn_r _ [14] (by decide +kernel) (by decide +kernel)
set_option maxRecDepth 20000 in
theorem gX7_trades_X7_isEither : GoodIn wsX7_trades (va_wsS RX7 210 yX7_isEither wsX7_isEither) := goodIn_app (goodIn_of _ (by decide +kernel)) ggX7_trades_X7_isEither
set_option maxRecDepth 20000 in
theorem ggX7_trades_X1_bestTrade : GoodIn wsX7_trades wsX1_bestTrade := goodIn_r _ [19, 20, 21, 22, 23, 24, 18, 25, 26, 27, 28, 29, 30, 31, 32, 33, 34, 35, 36, 37, 38, 39, 40, 41, 42, 43, 44, 45, 46, 47, 48, 49, 50, 51, 52, 53, 54, 55, 56, 57, 58, 59, 60, 61, 62, 63, 64, 65, 66, 67, 68, 69, 70, 71, 72, 73, 74, 75, 76, 77, 78, 79, 80, 81, 82, 83, 84, 85, 86, 87, 88, 89, 90, 91, 92, 93, 94, 95, 96, 97, 98, 99, 100, 110, 111, 112, 113, 114, 115, 116, 117, 118, 119, 120, 121] (by decide +kernel) (by decide +kernel)
set_option maxRecDepth 20000 in
theorem gX7_trades_X1_bestTrade : GoodIn wsX7_trades (wsV RX7 233 RX1 yX1_bestTrade wsX1_bestTrade) := goodIn_app (goodIn_of _ (by decide +kernel)) ggX7_trades_X1_bestTrade
theorem dX7_trades_0 : decode cX7_trades 0 = .ok (.aload_n 0, 1) := by decide +kernel
theorem dX7_trades_1 : decode cX7_trades 1 = .ok (.iload_n 1, 1) := by decide +kernel
theorem dX7_trades_2 : decode cX7_trades 2 = .ok (.invokevirtual 160, 3) := by decide +kernel
theorem dX7_trades_5 : decode cX7_trades 5 = .ok (.ifCond .eq 20, 3) := by decide +kernel
theorem dX7_trades_8 : decode cX7_trades 8 = .ok (.iload_n 2, 1) := by decide +kernel
theorem dX7_trades_9 : decode cX7_trades 9 = .ok (.iconst 1, 1) := by decide +kernel
theorem dX7_trades_10 : decode cX7_trades 10 = .ok (.bipush 24, 2) := by decide +kernel
theorem dX7_trades_12 : decode cX7_trades 12 = .ok (.invokestatic 59, 3) := by decide +kernel
theorem dX7_trades_15 : decode cX7_trades 15 = .ok (.ifCond .eq 10, 3) := by decide +kernel
theorem dX7_trades_18 : decode cX7_trades 18 = .ok (.iload_n 3, 1) := by decide +kernel
theorem dX7_trades_19 : decode cX7_trades 19 = .ok (.invokestatic 210, 3) := by decide +kernel
theorem dX7_trades_22 : decode cX7_trades 22 = .ok (.ifCond .ne 6, 3) := by decide +kernel
theorem dX7_trades_25 : decode cX7_trades 25 = .ok (.ldc 63, 2) := by decide +kernel
theorem dX7_trades_27 : decode cX7_trades 27 = .ok (.ireturn, 1) := by decide +kernel
theorem dX7_trades_28 : decode cX7_trades 28 = .ok (.aload_n 0, 1) := by decide +kernel
theorem dX7_trades_29 : decode cX7_trades 29 = .ok (.getfield 33, 3) := by decide +kernel
theorem dX7_trades_32 : decode cX7_trades 32 = .ok (.aload_n 0, 1) := by decide +kernel
theorem dX7_trades_33 : decode cX7_trades 33 = .ok (.getfield 26, 3) := by decide +kernel
theorem dX7_trades_36 : decode cX7_trades 36 = .ok (.iload_n 1, 1) := by decide +kernel
theorem dX7_trades_37 : decode cX7_trades 37 = .ok (.iload_n 2, 1) := by decide +kernel
theorem dX7_trades_38 : decode cX7_trades 38 = .ok (.invokevirtual 233, 3) := by decide +kernel
theorem dX7_trades_41 : decode cX7_trades 41 = .ok (.istore 4, 2) := by decide +kernel
theorem dX7_trades_43 : decode cX7_trades 43 = .ok (.iload_n 3, 1) := by decide +kernel
theorem dX7_trades_44 : decode cX7_trades 44 = .ok (.ifCond .ne 8, 3) := by decide +kernel
theorem dX7_trades_47 : decode cX7_trades 47 = .ok (.iload 4, 2) := by decide +kernel
theorem dX7_trades_49 : decode cX7_trades 49 = .ok (.goto 10, 3) := by decide +kernel
theorem dX7_trades_52 : decode cX7_trades 52 = .ok (.aload_n 0, 1) := by decide +kernel
theorem dX7_trades_53 : decode cX7_trades 53 = .ok (.getfield 33, 3) := by decide +kernel
theorem dX7_trades_56 : decode cX7_trades 56 = .ok (.getfield 236, 3) := by decide +kernel
theorem dX7_trades_59 : decode cX7_trades 59 = .ok (.ireturn, 1) := by decide +kernel
set_option maxRecDepth 20000 in
theorem ggX7_along_X7_isWindow : GoodIn wsX7_along wsX7_isWindow := goodIn_r _ [7, 2, 34, 35, 36, 37, 38, 39, 40, 41, 42, 43, 44, 45, 46, 47, 48, 49, 50, 51, 52] (by decide +kernel) (by decide +kernel)
set_option maxRecDepth 20000 in
theorem gX7_along_X7_isWindow : GoodIn wsX7_along (wsV RX7 160 RX7 yX7_isWindow wsX7_isWindow) := goodIn_app (goodIn_of _ (by decide +kernel)) ggX7_along_X7_isWindow
set_option maxRecDepth 20000 in
theorem ggX7_along_X7_isEither : GoodIn wsX7_along wsX7_isEither := goodIn_r _ [10] (by decide +kernel) (by decide +kernel)
set_option maxRecDepth 20000 in
theorem gX7_along_X7_isEither : GoodIn wsX7_along (va_wsS RX7 210 yX7_isEither wsX7_isEither) := goodIn_app (goodIn_of _ (by decide +kernel)) ggX7_along_X7_isEither
set_option maxRecDepth 20000 in
theorem ggX7_along_X4_near : GoodIn wsX7_along wsX4_near := goodIn_r _ [15, 16, 43, 44, 45, 46, 47, 48, 49, 50, 51, 52] (by decide +kernel) (by decide +kernel)
set_option maxRecDepth 20000 in
theorem gX7_along_X4_near : GoodIn wsX7_along (wsV RX7 239 RX4 yX4_near wsX4_near) := goodIn_app (goodIn_of _ (by decide +kernel)) ggX7_along_X4_near
set_option maxRecDepth 20000 in
theorem ggX7_along_X4_shutOnes : GoodIn wsX7_along wsX4_shutOnes := goodIn_r _ [20, 21, 22, 23, 24, 14, 25, 26, 43, 44, 45, 46, 47, 48, 49, 50, 51, 52] (by decide +kernel) (by decide +kernel)
set_option maxRecDepth 20000 in
theorem gX7_along_X4_shutOnes : GoodIn wsX7_along (wsV RX7 242 RX4 yX4_shutOnes wsX4_shutOnes) := goodIn_app (goodIn_of _ (by decide +kernel)) ggX7_along_X4_shutOnes
set_option maxRecDepth 20000 in
theorem ggX7_along_J6_bitCount_0f7a4 : GoodIn wsX7_along wsJ6_bitCount_0f7a4 := goodIn_r _ [30, 31, 32, 33] (by decide +kernel) (by decide +kernel)
set_option maxRecDepth 20000 in
theorem gX7_along_J6_bitCount_0f7a4 : GoodIn wsX7_along (va_wsS RX7 228 yJ6_bitCount_0f7a4 wsJ6_bitCount_0f7a4) := goodIn_app (goodIn_of _ (by decide +kernel)) ggX7_along_J6_bitCount_0f7a4
theorem dX7_along_0 : decode cX7_along 0 = .ok (.aload_n 0, 1) := by decide +kernel
theorem dX7_along_1 : decode cX7_along 1 = .ok (.iload_n 1, 1) := by decide +kernel
theorem dX7_along_2 : decode cX7_along 2 = .ok (.invokevirtual 160, 3) := by decide +kernel
theorem dX7_along_5 : decode cX7_along 5 = .ok (.ifCond .eq 10, 3) := by decide +kernel
theorem dX7_along_8 : decode cX7_along 8 = .ok (.iload_n 2, 1) := by decide +kernel
theorem dX7_along_9 : decode cX7_along 9 = .ok (.invokestatic 210, 3) := by decide +kernel
theorem dX7_along_12 : decode cX7_along 12 = .ok (.ifCond .ne 6, 3) := by decide +kernel
theorem dX7_along_15 : decode cX7_along 15 = .ok (.ldc 63, 2) := by decide +kernel
theorem dX7_along_17 : decode cX7_along 17 = .ok (.ireturn, 1) := by decide +kernel
theorem dX7_along_18 : decode cX7_along 18 = .ok (.iconst 1, 1) := by decide +kernel
theorem dX7_along_19 : decode cX7_along 19 = .ok (.iload_n 1, 1) := by decide +kernel
theorem dX7_along_20 : decode cX7_along 20 = .ok (.ishl, 1) := by decide +kernel
theorem dX7_along_21 : decode cX7_along 21 = .ok (.istore_n 3, 1) := by decide +kernel
theorem dX7_along_22 : decode cX7_along 22 = .ok (.iconst 0, 1) := by decide +kernel
theorem dX7_along_23 : decode cX7_along 23 = .ok (.istore 4, 2) := by decide +kernel
theorem dX7_along_25 : decode cX7_along 25 = .ok (.iconst 1, 1) := by decide +kernel
theorem dX7_along_26 : decode cX7_along 26 = .ok (.istore 5, 2) := by decide +kernel
theorem dX7_along_28 : decode cX7_along 28 = .ok (.iload 5, 2) := by decide +kernel
theorem dX7_along_30 : decode cX7_along 30 = .ok (.aload_n 0, 1) := by decide +kernel
theorem dX7_along_31 : decode cX7_along 31 = .ok (.getfield 26, 3) := by decide +kernel
theorem dX7_along_34 : decode cX7_along 34 = .ok (.getfield 140, 3) := by decide +kernel
theorem dX7_along_37 : decode cX7_along 37 = .ok (.if_icmp .gt 45, 3) := by decide +kernel
theorem dX7_along_40 : decode cX7_along 40 = .ok (.iload_n 3, 1) := by decide +kernel
theorem dX7_along_41 : decode cX7_along 41 = .ok (.aload_n 0, 1) := by decide +kernel
theorem dX7_along_42 : decode cX7_along 42 = .ok (.getfield 26, 3) := by decide +kernel
theorem dX7_along_45 : decode cX7_along 45 = .ok (.iload_n 3, 1) := by decide +kernel
theorem dX7_along_46 : decode cX7_along 46 = .ok (.invokevirtual 239, 3) := by decide +kernel
theorem dX7_along_49 : decode cX7_along 49 = .ok (.aload_n 0, 1) := by decide +kernel
theorem dX7_along_50 : decode cX7_along 50 = .ok (.getfield 26, 3) := by decide +kernel
theorem dX7_along_53 : decode cX7_along 53 = .ok (.invokevirtual 242, 3) := by decide +kernel
theorem dX7_along_56 : decode cX7_along 56 = .ok (.iand, 1) := by decide +kernel
theorem dX7_along_57 : decode cX7_along 57 = .ok (.ior, 1) := by decide +kernel
theorem dX7_along_58 : decode cX7_along 58 = .ok (.istore 6, 2) := by decide +kernel
theorem dX7_along_60 : decode cX7_along 60 = .ok (.iload 6, 2) := by decide +kernel
theorem dX7_along_62 : decode cX7_along 62 = .ok (.iload_n 3, 1) := by decide +kernel
theorem dX7_along_63 : decode cX7_along 63 = .ok (.if_icmp .ne 6, 3) := by decide +kernel
theorem dX7_along_66 : decode cX7_along 66 = .ok (.goto 16, 3) := by decide +kernel
theorem dX7_along_69 : decode cX7_along 69 = .ok (.iload 6, 2) := by decide +kernel
theorem dX7_along_71 : decode cX7_along 71 = .ok (.istore_n 3, 1) := by decide +kernel
theorem dX7_along_72 : decode cX7_along 72 = .ok (.iload 5, 2) := by decide +kernel
theorem dX7_along_74 : decode cX7_along 74 = .ok (.istore 4, 2) := by decide +kernel
theorem dX7_along_76 : decode cX7_along 76 = .ok (.iinc 5 1, 3) := by decide +kernel
theorem dX7_along_79 : decode cX7_along 79 = .ok (.goto (-51), 3) := by decide +kernel
theorem dX7_along_82 : decode cX7_along 82 = .ok (.iload_n 2, 1) := by decide +kernel
theorem dX7_along_83 : decode cX7_along 83 = .ok (.ifCond .ne 8, 3) := by decide +kernel
theorem dX7_along_86 : decode cX7_along 86 = .ok (.iload 4, 2) := by decide +kernel
theorem dX7_along_88 : decode cX7_along 88 = .ok (.goto 7, 3) := by decide +kernel
theorem dX7_along_91 : decode cX7_along 91 = .ok (.iload_n 3, 1) := by decide +kernel
theorem dX7_along_92 : decode cX7_along 92 = .ok (.invokestatic 228, 3) := by decide +kernel
theorem dX7_along_95 : decode cX7_along 95 = .ok (.ireturn, 1) := by decide +kernel
set_option maxRecDepth 20000 in
theorem ggX7_alike_X7_isStreetless : GoodIn wsX7_alike wsX7_isStreetless := goodIn_r _ [9, 4, 13, 14, 15, 16, 17, 18, 19, 20, 21, 22, 23, 24, 25, 26, 27, 28, 29, 30, 31] (by decide +kernel) (by decide +kernel)
set_option maxRecDepth 20000 in
theorem gX7_alike_X7_isStreetless : GoodIn wsX7_alike (wsV RX7 143 RX7 yX7_isStreetless wsX7_isStreetless) := goodIn_app (goodIn_of _ (by decide +kernel)) ggX7_alike_X7_isStreetless
set_option maxRecDepth 20000 in
theorem ggX7_alike_X7_isEither : GoodIn wsX7_alike wsX7_isEither := goodIn_r _ [12] (by decide +kernel) (by decide +kernel)
set_option maxRecDepth 20000 in
theorem gX7_alike_X7_isEither : GoodIn wsX7_alike (va_wsS RX7 210 yX7_isEither wsX7_isEither) := goodIn_app (goodIn_of _ (by decide +kernel)) ggX7_alike_X7_isEither
theorem dX7_alike_0 : decode cX7_alike 0 = .ok (.aload_n 0, 1) := by decide +kernel
theorem dX7_alike_1 : decode cX7_alike 1 = .ok (.invokevirtual 143, 3) := by decide +kernel
theorem dX7_alike_4 : decode cX7_alike 4 = .ok (.ifCond .eq 6, 3) := by decide +kernel
theorem dX7_alike_7 : decode cX7_alike 7 = .ok (.ldc 147, 2) := by decide +kernel
theorem dX7_alike_9 : decode cX7_alike 9 = .ok (.ireturn, 1) := by decide +kernel
theorem dX7_alike_10 : decode cX7_alike 10 = .ok (.iload_n 1, 1) := by decide +kernel
theorem dX7_alike_11 : decode cX7_alike 11 = .ok (.invokestatic 210, 3) := by decide +kernel
theorem dX7_alike_14 : decode cX7_alike 14 = .ok (.ifCond .ne 6, 3) := by decide +kernel
theorem dX7_alike_17 : decode cX7_alike 17 = .ok (.ldc 63, 2) := by decide +kernel
theorem dX7_alike_19 : decode cX7_alike 19 = .ok (.ireturn, 1) := by decide +kernel
theorem dX7_alike_20 : decode cX7_alike 20 = .ok (.iconst 0, 1) := by decide +kernel
theorem dX7_alike_21 : decode cX7_alike 21 = .ok (.istore_n 2, 1) := by decide +kernel
theorem dX7_alike_22 : decode cX7_alike 22 = .ok (.ldc 227, 2) := by decide +kernel
theorem dX7_alike_24 : decode cX7_alike 24 = .ok (.istore_n 3, 1) := by decide +kernel
theorem dX7_alike_25 : decode cX7_alike 25 = .ok (.iconst 0, 1) := by decide +kernel
theorem dX7_alike_26 : decode cX7_alike 26 = .ok (.istore 4, 2) := by decide +kernel
theorem dX7_alike_28 : decode cX7_alike 28 = .ok (.iload 4, 2) := by decide +kernel
theorem dX7_alike_30 : decode cX7_alike 30 = .ok (.aload_n 0, 1) := by decide +kernel
theorem dX7_alike_31 : decode cX7_alike 31 = .ok (.getfield 26, 3) := by decide +kernel
theorem dX7_alike_34 : decode cX7_alike 34 = .ok (.getfield 140, 3) := by decide +kernel
theorem dX7_alike_37 : decode cX7_alike 37 = .ok (.if_icmp .ge 78, 3) := by decide +kernel
theorem dX7_alike_40 : decode cX7_alike 40 = .ok (.iload 4, 2) := by decide +kernel
theorem dX7_alike_42 : decode cX7_alike 42 = .ok (.iconst 1, 1) := by decide +kernel
theorem dX7_alike_43 : decode cX7_alike 43 = .ok (.iadd, 1) := by decide +kernel
theorem dX7_alike_44 : decode cX7_alike 44 = .ok (.istore 5, 2) := by decide +kernel
theorem dX7_alike_46 : decode cX7_alike 46 = .ok (.iload 5, 2) := by decide +kernel
theorem dX7_alike_48 : decode cX7_alike 48 = .ok (.aload_n 0, 1) := by decide +kernel
theorem dX7_alike_49 : decode cX7_alike 49 = .ok (.getfield 26, 3) := by decide +kernel
theorem dX7_alike_52 : decode cX7_alike 52 = .ok (.getfield 140, 3) := by decide +kernel
theorem dX7_alike_55 : decode cX7_alike 55 = .ok (.if_icmp .ge 54, 3) := by decide +kernel
theorem dX7_alike_58 : decode cX7_alike 58 = .ok (.aload_n 0, 1) := by decide +kernel
theorem dX7_alike_59 : decode cX7_alike 59 = .ok (.getfield 26, 3) := by decide +kernel
theorem dX7_alike_62 : decode cX7_alike 62 = .ok (.getfield 166, 3) := by decide +kernel
theorem dX7_alike_65 : decode cX7_alike 65 = .ok (.iload 4, 2) := by decide +kernel
theorem dX7_alike_67 : decode cX7_alike 67 = .ok (.iaload, 1) := by decide +kernel
theorem dX7_alike_68 : decode cX7_alike 68 = .ok (.aload_n 0, 1) := by decide +kernel
theorem dX7_alike_69 : decode cX7_alike 69 = .ok (.getfield 26, 3) := by decide +kernel
theorem dX7_alike_72 : decode cX7_alike 72 = .ok (.getfield 166, 3) := by decide +kernel
theorem dX7_alike_75 : decode cX7_alike 75 = .ok (.iload 5, 2) := by decide +kernel
theorem dX7_alike_77 : decode cX7_alike 77 = .ok (.iaload, 1) := by decide +kernel
theorem dX7_alike_78 : decode cX7_alike 78 = .ok (.if_icmp .ne 25, 3) := by decide +kernel
theorem dX7_alike_81 : decode cX7_alike 81 = .ok (.iinc 2 1, 3) := by decide +kernel
theorem dX7_alike_84 : decode cX7_alike 84 = .ok (.iload_n 3, 1) := by decide +kernel
theorem dX7_alike_85 : decode cX7_alike 85 = .ok (.ldc 227, 2) := by decide +kernel
theorem dX7_alike_87 : decode cX7_alike 87 = .ok (.if_icmp .ne 14, 3) := by decide +kernel
theorem dX7_alike_90 : decode cX7_alike 90 = .ok (.bipush 10, 2) := by decide +kernel
theorem dX7_alike_92 : decode cX7_alike 92 = .ok (.iload 4, 2) := by decide +kernel
theorem dX7_alike_94 : decode cX7_alike 94 = .ok (.imul, 1) := by decide +kernel
theorem dX7_alike_95 : decode cX7_alike 95 = .ok (.iload 5, 2) := by decide +kernel
theorem dX7_alike_97 : decode cX7_alike 97 = .ok (.iadd, 1) := by decide +kernel
theorem dX7_alike_98 : decode cX7_alike 98 = .ok (.goto 4, 3) := by decide +kernel
theorem dX7_alike_101 : decode cX7_alike 101 = .ok (.iload_n 3, 1) := by decide +kernel
theorem dX7_alike_102 : decode cX7_alike 102 = .ok (.istore_n 3, 1) := by decide +kernel
theorem dX7_alike_103 : decode cX7_alike 103 = .ok (.iinc 5 1, 3) := by decide +kernel
theorem dX7_alike_106 : decode cX7_alike 106 = .ok (.goto (-60), 3) := by decide +kernel
theorem dX7_alike_109 : decode cX7_alike 109 = .ok (.iinc 4 1, 3) := by decide +kernel
theorem dX7_alike_112 : decode cX7_alike 112 = .ok (.goto (-84), 3) := by decide +kernel
theorem dX7_alike_115 : decode cX7_alike 115 = .ok (.iload_n 1, 1) := by decide +kernel
theorem dX7_alike_116 : decode cX7_alike 116 = .ok (.ifCond .ne 7, 3) := by decide +kernel
theorem dX7_alike_119 : decode cX7_alike 119 = .ok (.iload_n 2, 1) := by decide +kernel
theorem dX7_alike_120 : decode cX7_alike 120 = .ok (.goto 4, 3) := by decide +kernel
theorem dX7_alike_123 : decode cX7_alike 123 = .ok (.iload_n 3, 1) := by decide +kernel
theorem dX7_alike_124 : decode cX7_alike 124 = .ok (.ireturn, 1) := by decide +kernel
set_option maxRecDepth 20000 in
theorem ggX7_guess_X7_isWindow : GoodIn wsX7_guess wsX7_isWindow := goodIn_r _ [7, 2, 19, 20, 21, 22, 23, 24, 25, 26, 27, 28, 29, 30, 31, 32, 33, 34, 35, 36, 37] (by decide +kernel) (by decide +kernel)
set_option maxRecDepth 20000 in
theorem gX7_guess_X7_isWindow : GoodIn wsX7_guess (wsV RX7 160 RX7 yX7_isWindow wsX7_isWindow) := goodIn_app (goodIn_of _ (by decide +kernel)) ggX7_guess_X7_isWindow
set_option maxRecDepth 20000 in
theorem ggX7_guess_X4_all : GoodIn wsX7_guess wsX4_all := goodIn_r _ [12, 13, 28, 29, 30, 31, 32, 33, 34, 35, 36, 37] (by decide +kernel) (by decide +kernel)
set_option maxRecDepth 20000 in
theorem gX7_guess_X4_all : GoodIn wsX7_guess (wsV RX7 245 RX4 yX4_all wsX4_all) := goodIn_app (goodIn_of _ (by decide +kernel)) ggX7_guess_X4_all
set_option maxRecDepth 20000 in
theorem ggX7_guess_X4_picturesOf : GoodIn wsX7_guess wsX4_picturesOf := goodIn_r _ [17, 13, 18, 28, 29, 30, 31, 32, 33, 34, 35, 36, 37] (by decide +kernel) (by decide +kernel)
set_option maxRecDepth 20000 in
theorem gX7_guess_X4_picturesOf : GoodIn wsX7_guess (wsV RX7 248 RX4 yX4_picturesOf wsX4_picturesOf) := goodIn_app (goodIn_of _ (by decide +kernel)) ggX7_guess_X4_picturesOf
theorem dX7_guess_0 : decode cX7_guess 0 = .ok (.aload_n 0, 1) := by decide +kernel
theorem dX7_guess_1 : decode cX7_guess 1 = .ok (.iload_n 1, 1) := by decide +kernel
theorem dX7_guess_2 : decode cX7_guess 2 = .ok (.invokevirtual 160, 3) := by decide +kernel
theorem dX7_guess_5 : decode cX7_guess 5 = .ok (.ifCond .ne 6, 3) := by decide +kernel
theorem dX7_guess_8 : decode cX7_guess 8 = .ok (.ldc 63, 2) := by decide +kernel
theorem dX7_guess_10 : decode cX7_guess 10 = .ok (.ireturn, 1) := by decide +kernel
theorem dX7_guess_11 : decode cX7_guess 11 = .ok (.aload_n 0, 1) := by decide +kernel
theorem dX7_guess_12 : decode cX7_guess 12 = .ok (.getfield 26, 3) := by decide +kernel
theorem dX7_guess_15 : decode cX7_guess 15 = .ok (.aload_n 0, 1) := by decide +kernel
theorem dX7_guess_16 : decode cX7_guess 16 = .ok (.getfield 26, 3) := by decide +kernel
theorem dX7_guess_19 : decode cX7_guess 19 = .ok (.invokevirtual 245, 3) := by decide +kernel
theorem dX7_guess_22 : decode cX7_guess 22 = .ok (.invokevirtual 248, 3) := by decide +kernel
theorem dX7_guess_25 : decode cX7_guess 25 = .ok (.aload_n 0, 1) := by decide +kernel
theorem dX7_guess_26 : decode cX7_guess 26 = .ok (.getfield 26, 3) := by decide +kernel
theorem dX7_guess_29 : decode cX7_guess 29 = .ok (.getfield 195, 3) := by decide +kernel
theorem dX7_guess_32 : decode cX7_guess 32 = .ok (.iload_n 1, 1) := by decide +kernel
theorem dX7_guess_33 : decode cX7_guess 33 = .ok (.iaload, 1) := by decide +kernel
theorem dX7_guess_34 : decode cX7_guess 34 = .ok (.iconst (-1), 1) := by decide +kernel
theorem dX7_guess_35 : decode cX7_guess 35 = .ok (.ixor, 1) := by decide +kernel
theorem dX7_guess_36 : decode cX7_guess 36 = .ok (.iand, 1) := by decide +kernel
theorem dX7_guess_37 : decode cX7_guess 37 = .ok (.ireturn, 1) := by decide +kernel
set_option maxRecDepth 20000 in
theorem ggX7_fits_X7_isWindow : GoodIn wsX7_fits wsX7_isWindow := goodIn_r _ [9, 4, 110, 111, 112, 113, 114, 115, 116, 117, 118, 122, 123, 124, 125, 126, 127, 128, 129, 130, 131] (by decide +kernel) (by decide +kernel)
set_option maxRecDepth 20000 in
theorem gX7_fits_X7_isWindow : GoodIn wsX7_fits (wsV RX7 160 RX7 yX7_isWindow wsX7_isWindow) := goodIn_app (goodIn_of _ (by decide +kernel)) ggX7_fits_X7_isWindow
set_option maxRecDepth 20000 in
theorem ggX7_fits_X7_isRow : GoodIn wsX7_fits wsX7_isRow := goodIn_r _ [12] (by decide +kernel) (by decide +kernel)
set_option maxRecDepth 20000 in
theorem gX7_fits_X7_isRow : GoodIn wsX7_fits (va_wsS RX7 55 yX7_isRow wsX7_isRow) := goodIn_app (goodIn_of _ (by decide +kernel)) ggX7_fits_X7_isRow
set_option maxRecDepth 20000 in
theorem ggX7_fits_X7_isWithin : GoodIn wsX7_fits wsX7_isWithin := goodIn_r _ [15] (by decide +kernel) (by decide +kernel)
set_option maxRecDepth 20000 in
theorem gX7_fits_X7_isWithin : GoodIn wsX7_fits (va_wsS RX7 59 yX7_isWithin wsX7_isWithin) := goodIn_app (goodIn_of _ (by decide +kernel)) ggX7_fits_X7_isWithin
set_option maxRecDepth 20000 in
theorem ggX7_fits_X3_isMissing : GoodIn wsX7_fits wsX3_isMissing := goodIn_r _ [20, 21, 119, 120, 121] (by decide +kernel) (by decide +kernel)
set_option maxRecDepth 20000 in
theorem gX7_fits_X3_isMissing : GoodIn wsX7_fits (wsV RX7 75 RX3 yX3_isMissing wsX3_isMissing) := goodIn_app (goodIn_of _ (by decide +kernel)) ggX7_fits_X3_isMissing
set_option maxRecDepth 20000 in
theorem ggX7_fits_X7_found : GoodIn wsX7_fits wsX7_found := goodIn_r _ [25, 26, 27, 110, 111, 112, 113, 114, 115, 116, 117, 118] (by decide +kernel) (by decide +kernel)
set_option maxRecDepth 20000 in
theorem gX7_fits_X7_found : GoodIn wsX7_fits (wsV RX7 64 RX7 yX7_found wsX7_found) := goodIn_app (goodIn_of _ (by decide +kernel)) ggX7_fits_X7_found
set_option maxRecDepth 20000 in
theorem ggX7_fits_X3_reaches : GoodIn wsX7_fits wsX3_reaches := goodIn_r _ [31, 32, 119, 120, 121] (by decide +kernel) (by decide +kernel)
set_option maxRecDepth 20000 in
theorem gX7_fits_X3_reaches : GoodIn wsX7_fits (wsV RX7 78 RX3 yX3_reaches wsX3_reaches) := goodIn_app (goodIn_of _ (by decide +kernel)) ggX7_fits_X3_reaches
set_option maxRecDepth 20000 in
theorem ggX7_fits_X1_fitting : GoodIn wsX7_fits wsX1_fitting := goodIn_r _ [37, 38, 39, 40, 41, 42, 43, 44, 45, 46, 47, 48, 49, 50, 51, 52, 53, 54, 55, 56, 57, 58, 59, 60, 36, 61, 62, 63, 64, 65, 66, 67, 68, 69, 70, 71, 72, 73, 74, 75, 76, 77, 78, 79, 80, 81, 82, 83, 84, 85, 86, 87, 88, 89, 90, 91, 92, 93, 94, 95, 96, 97, 98, 99, 100, 101, 102, 103, 104, 105, 132, 133, 122, 123, 124, 125, 126, 127, 128, 129, 130, 131] (by decide +kernel) (by decide +kernel)
set_option maxRecDepth 20000 in
theorem gX7_fits_X1_fitting : GoodIn wsX7_fits (wsV RX7 251 RX1 yX1_fitting wsX1_fitting) := goodIn_app (goodIn_of _ (by decide +kernel)) ggX7_fits_X1_fitting
set_option maxRecDepth 20000 in
theorem ggX7_fits_X7_unfound : GoodIn wsX7_fits wsX7_unfound := goodIn_r _ [109, 26, 110, 111, 112, 113, 114, 115, 116, 117, 118] (by decide +kernel) (by decide +kernel)
set_option maxRecDepth 20000 in
theorem gX7_fits_X7_unfound : GoodIn wsX7_fits (wsV RX7 72 RX7 yX7_unfound wsX7_unfound) := goodIn_app (goodIn_of _ (by decide +kernel)) ggX7_fits_X7_unfound
theorem dX7_fits_0 : decode cX7_fits 0 = .ok (.aload_n 0, 1) := by decide +kernel
theorem dX7_fits_1 : decode cX7_fits 1 = .ok (.iload_n 1, 1) := by decide +kernel
theorem dX7_fits_2 : decode cX7_fits 2 = .ok (.invokevirtual 160, 3) := by decide +kernel
theorem dX7_fits_5 : decode cX7_fits 5 = .ok (.ifCond .eq 31, 3) := by decide +kernel
theorem dX7_fits_8 : decode cX7_fits 8 = .ok (.iload_n 2, 1) := by decide +kernel
theorem dX7_fits_9 : decode cX7_fits 9 = .ok (.invokestatic 55, 3) := by decide +kernel
theorem dX7_fits_12 : decode cX7_fits 12 = .ok (.ifCond .eq 24, 3) := by decide +kernel
theorem dX7_fits_15 : decode cX7_fits 15 = .ok (.iload 4, 2) := by decide +kernel
theorem dX7_fits_17 : decode cX7_fits 17 = .ok (.iconst 1, 1) := by decide +kernel
theorem dX7_fits_18 : decode cX7_fits 18 = .ok (.bipush 12, 2) := by decide +kernel
theorem dX7_fits_20 : decode cX7_fits 20 = .ok (.invokestatic 59, 3) := by decide +kernel
theorem dX7_fits_23 : decode cX7_fits 23 = .ok (.ifCond .eq 13, 3) := by decide +kernel
theorem dX7_fits_26 : decode cX7_fits 26 = .ok (.iload 5, 2) := by decide +kernel
theorem dX7_fits_28 : decode cX7_fits 28 = .ok (.iconst 0, 1) := by decide +kernel
theorem dX7_fits_29 : decode cX7_fits 29 = .ok (.iconst 3, 1) := by decide +kernel
theorem dX7_fits_30 : decode cX7_fits 30 = .ok (.invokestatic 59, 3) := by decide +kernel
theorem dX7_fits_33 : decode cX7_fits 33 = .ok (.ifCond .ne 6, 3) := by decide +kernel
theorem dX7_fits_36 : decode cX7_fits 36 = .ok (.ldc 63, 2) := by decide +kernel
theorem dX7_fits_38 : decode cX7_fits 38 = .ok (.ireturn, 1) := by decide +kernel
theorem dX7_fits_39 : decode cX7_fits 39 = .ok (.aload_n 0, 1) := by decide +kernel
theorem dX7_fits_40 : decode cX7_fits 40 = .ok (.getfield 10, 3) := by decide +kernel
theorem dX7_fits_43 : decode cX7_fits 43 = .ok (.iload_n 2, 1) := by decide +kernel
theorem dX7_fits_44 : decode cX7_fits 44 = .ok (.invokevirtual 75, 3) := by decide +kernel
theorem dX7_fits_47 : decode cX7_fits 47 = .ok (.ifCond .eq 9, 3) := by decide +kernel
theorem dX7_fits_50 : decode cX7_fits 50 = .ok (.aload_n 0, 1) := by decide +kernel
theorem dX7_fits_51 : decode cX7_fits 51 = .ok (.iconst 1, 1) := by decide +kernel
theorem dX7_fits_52 : decode cX7_fits 52 = .ok (.invokevirtual 64, 3) := by decide +kernel
theorem dX7_fits_55 : decode cX7_fits 55 = .ok (.ireturn, 1) := by decide +kernel
theorem dX7_fits_56 : decode cX7_fits 56 = .ok (.aload_n 0, 1) := by decide +kernel
theorem dX7_fits_57 : decode cX7_fits 57 = .ok (.getfield 10, 3) := by decide +kernel
theorem dX7_fits_60 : decode cX7_fits 60 = .ok (.iload_n 2, 1) := by decide +kernel
theorem dX7_fits_61 : decode cX7_fits 61 = .ok (.iload_n 3, 1) := by decide +kernel
theorem dX7_fits_62 : decode cX7_fits 62 = .ok (.iload 4, 2) := by decide +kernel
theorem dX7_fits_64 : decode cX7_fits 64 = .ok (.invokevirtual 78, 3) := by decide +kernel
theorem dX7_fits_67 : decode cX7_fits 67 = .ok (.ifCond .ne 9, 3) := by decide +kernel
theorem dX7_fits_70 : decode cX7_fits 70 = .ok (.aload_n 0, 1) := by decide +kernel
theorem dX7_fits_71 : decode cX7_fits 71 = .ok (.iconst 2, 1) := by decide +kernel
theorem dX7_fits_72 : decode cX7_fits 72 = .ok (.invokevirtual 64, 3) := by decide +kernel
theorem dX7_fits_75 : decode cX7_fits 75 = .ok (.ireturn, 1) := by decide +kernel
theorem dX7_fits_76 : decode cX7_fits 76 = .ok (.aload_n 0, 1) := by decide +kernel
theorem dX7_fits_77 : decode cX7_fits 77 = .ok (.aload_n 0, 1) := by decide +kernel
theorem dX7_fits_78 : decode cX7_fits 78 = .ok (.getfield 33, 3) := by decide +kernel
theorem dX7_fits_81 : decode cX7_fits 81 = .ok (.aload_n 0, 1) := by decide +kernel
theorem dX7_fits_82 : decode cX7_fits 82 = .ok (.getfield 26, 3) := by decide +kernel
theorem dX7_fits_85 : decode cX7_fits 85 = .ok (.iload_n 1, 1) := by decide +kernel
theorem dX7_fits_86 : decode cX7_fits 86 = .ok (.aload_n 0, 1) := by decide +kernel
theorem dX7_fits_87 : decode cX7_fits 87 = .ok (.getfield 10, 3) := by decide +kernel
theorem dX7_fits_90 : decode cX7_fits 90 = .ok (.getfield 89, 3) := by decide +kernel
theorem dX7_fits_93 : decode cX7_fits 93 = .ok (.iload_n 2, 1) := by decide +kernel
theorem dX7_fits_94 : decode cX7_fits 94 = .ok (.aaload, 1) := by decide +kernel
theorem dX7_fits_95 : decode cX7_fits 95 = .ok (.iload_n 3, 1) := by decide +kernel
theorem dX7_fits_96 : decode cX7_fits 96 = .ok (.iload 4, 2) := by decide +kernel
theorem dX7_fits_98 : decode cX7_fits 98 = .ok (.iload 5, 2) := by decide +kernel
theorem dX7_fits_100 : decode cX7_fits 100 = .ok (.invokevirtual 251, 3) := by decide +kernel
theorem dX7_fits_103 : decode cX7_fits 103 = .ok (.invokevirtual 72, 3) := by decide +kernel
theorem dX7_fits_106 : decode cX7_fits 106 = .ok (.ireturn, 1) := by decide +kernel
set_option maxRecDepth 20000 in
theorem ggX7_wind_X7_isWindow : GoodIn wsX7_wind wsX7_isWindow := goodIn_r _ [8, 2, 103, 104, 105, 106, 107, 108, 109, 110, 111, 112, 113, 114, 115, 116, 117, 118, 119, 120, 121] (by decide +kernel) (by decide +kernel)
set_option maxRecDepth 20000 in
theorem gX7_wind_X7_isWindow : GoodIn wsX7_wind (wsV RX7 160 RX7 yX7_isWindow wsX7_isWindow) := goodIn_app (goodIn_of _ (by decide +kernel)) ggX7_wind_X7_isWindow
set_option maxRecDepth 20000 in
theorem ggX7_wind_X7_isWithin : GoodIn wsX7_wind wsX7_isWithin := goodIn_r _ [11] (by decide +kernel) (by decide +kernel)
set_option maxRecDepth 20000 in
theorem gX7_wind_X7_isWithin : GoodIn wsX7_wind (va_wsS RX7 59 yX7_isWithin wsX7_isWithin) := goodIn_app (goodIn_of _ (by decide +kernel)) ggX7_wind_X7_isWithin
set_option maxRecDepth 20000 in
theorem ggX7_wind_X7_isEither : GoodIn wsX7_wind wsX7_isEither := goodIn_r _ [14] (by decide +kernel) (by decide +kernel)
set_option maxRecDepth 20000 in
theorem gX7_wind_X7_isEither : GoodIn wsX7_wind (va_wsS RX7 210 yX7_isEither wsX7_isEither) := goodIn_app (goodIn_of _ (by decide +kernel)) ggX7_wind_X7_isEither
set_option maxRecDepth 20000 in
theorem ggX7_wind_X4_touching : GoodIn wsX7_wind wsX4_touching := goodIn_r _ [19, 20, 21, 22, 23, 18, 24, 25, 26, 27, 28, 29, 112, 113, 114, 115, 116, 117, 118, 119, 120, 121] (by decide +kernel) (by decide +kernel)
set_option maxRecDepth 20000 in
theorem gX7_wind_X4_touching : GoodIn wsX7_wind (wsV RX7 257 RX4 yX4_touching wsX4_touching) := goodIn_app (goodIn_of _ (by decide +kernel)) ggX7_wind_X4_touching
set_option maxRecDepth 20000 in
theorem ggX7_wind_X1_windyWays : GoodIn wsX7_wind wsX1_windyWays := goodIn_r _ [34, 35, 36, 37, 18, 38, 39, 26, 27, 28, 29, 20, 40, 41, 42, 43, 44, 45, 46, 47, 7, 48, 49, 50, 51, 33, 52, 53, 54, 55, 56, 57, 25, 58, 59, 60, 61, 62, 63, 64, 65, 66, 67, 68, 69, 70, 71, 72, 73, 74, 75, 76, 77, 78, 79, 80, 81, 82, 83, 84, 85, 86, 87, 88, 89, 90, 91, 92, 93, 94, 95, 96, 112, 113, 114, 115, 116, 117, 118, 119, 120, 121, 122, 123] (by decide +kernel) (by decide +kernel)
set_option maxRecDepth 20000 in
theorem gX7_wind_X1_windyWays : GoodIn wsX7_wind (wsV RX7 260 RX1 yX1_windyWays wsX1_windyWays) := goodIn_app (goodIn_of _ (by decide +kernel)) ggX7_wind_X1_windyWays
set_option maxRecDepth 20000 in
theorem ggX7_wind_X4_shutOnes : GoodIn wsX7_wind wsX4_shutOnes := goodIn_r _ [38, 39, 26, 27, 28, 18, 29, 20, 112, 113, 114, 115, 116, 117, 118, 119, 120, 121] (by decide +kernel) (by decide +kernel)
set_option maxRecDepth 20000 in
theorem gX7_wind_X4_shutOnes : GoodIn wsX7_wind (wsV RX7 242 RX4 yX4_shutOnes wsX4_shutOnes) := goodIn_app (goodIn_of _ (by decide +kernel)) ggX7_wind_X4_shutOnes
set_option maxRecDepth 20000 in
theorem ggX7_wind_J6_bitCount_0f7a4 : GoodIn wsX7_wind wsJ6_bitCount_0f7a4 := goodIn_r _ [43, 44, 45, 46] (by decide +kernel) (by decide +kernel)
set_option maxRecDepth 20000 in
theorem gX7_wind_J6_bitCount_0f7a4 : GoodIn wsX7_wind (va_wsS RX7 228 yJ6_bitCount_0f7a4 wsJ6_bitCount_0f7a4) := goodIn_app (goodIn_of _ (by decide +kernel)) ggX7_wind_J6_bitCount_0f7a4
set_option maxRecDepth 20000 in
theorem ggX7_wind_X7_power : GoodIn wsX7_wind wsX7_power := goodIn_r _ [48] (by decide +kernel) (by decide +kernel)
set_option maxRecDepth 20000 in
theorem gX7_wind_X7_power : GoodIn wsX7_wind (va_wsS RX7 264 yX7_power wsX7_power) := goodIn_app (goodIn_of _ (by decide +kernel)) ggX7_wind_X7_power
set_option maxRecDepth 20000 in
theorem ggX7_wind_X7_commonDivisor : GoodIn wsX7_wind wsX7_commonDivisor := goodIn_r _ [102] (by decide +kernel) (by decide +kernel)
set_option maxRecDepth 20000 in
theorem gX7_wind_X7_commonDivisor : GoodIn wsX7_wind (va_wsS RX7 268 yX7_commonDivisor wsX7_commonDivisor) := goodIn_app (goodIn_of _ (by decide +kernel)) ggX7_wind_X7_commonDivisor
theorem dX7_wind_0 : decode cX7_wind 0 = .ok (.aload_n 0, 1) := by decide +kernel
theorem dX7_wind_1 : decode cX7_wind 1 = .ok (.iload_n 1, 1) := by decide +kernel
theorem dX7_wind_2 : decode cX7_wind 2 = .ok (.invokevirtual 160, 3) := by decide +kernel
theorem dX7_wind_5 : decode cX7_wind 5 = .ok (.ifCond .eq 31, 3) := by decide +kernel
theorem dX7_wind_8 : decode cX7_wind 8 = .ok (.iload_n 2, 1) := by decide +kernel
theorem dX7_wind_9 : decode cX7_wind 9 = .ok (.iconst 0, 1) := by decide +kernel
theorem dX7_wind_10 : decode cX7_wind 10 = .ok (.bipush 24, 2) := by decide +kernel
theorem dX7_wind_12 : decode cX7_wind 12 = .ok (.invokestatic 59, 3) := by decide +kernel
theorem dX7_wind_15 : decode cX7_wind 15 = .ok (.ifCond .eq 21, 3) := by decide +kernel
theorem dX7_wind_18 : decode cX7_wind 18 = .ok (.iload_n 3, 1) := by decide +kernel
theorem dX7_wind_19 : decode cX7_wind 19 = .ok (.iconst 0, 1) := by decide +kernel
theorem dX7_wind_20 : decode cX7_wind 20 = .ok (.bipush 10, 2) := by decide +kernel
theorem dX7_wind_22 : decode cX7_wind 22 = .ok (.invokestatic 59, 3) := by decide +kernel
theorem dX7_wind_25 : decode cX7_wind 25 = .ok (.ifCond .eq 11, 3) := by decide +kernel
theorem dX7_wind_28 : decode cX7_wind 28 = .ok (.iload 4, 2) := by decide +kernel
theorem dX7_wind_30 : decode cX7_wind 30 = .ok (.invokestatic 210, 3) := by decide +kernel
theorem dX7_wind_33 : decode cX7_wind 33 = .ok (.ifCond .ne 7, 3) := by decide +kernel
theorem dX7_wind_36 : decode cX7_wind 36 = .ok (.ldc2_w 255, 3) := by decide +kernel
theorem dX7_wind_39 : decode cX7_wind 39 = .ok (.lreturn, 1) := by decide +kernel
theorem dX7_wind_40 : decode cX7_wind 40 = .ok (.aload_n 0, 1) := by decide +kernel
theorem dX7_wind_41 : decode cX7_wind 41 = .ok (.getfield 26, 3) := by decide +kernel
theorem dX7_wind_44 : decode cX7_wind 44 = .ok (.iload_n 1, 1) := by decide +kernel
theorem dX7_wind_45 : decode cX7_wind 45 = .ok (.invokevirtual 257, 3) := by decide +kernel
theorem dX7_wind_48 : decode cX7_wind 48 = .ok (.istore 5, 2) := by decide +kernel
theorem dX7_wind_50 : decode cX7_wind 50 = .ok (.aload_n 0, 1) := by decide +kernel
theorem dX7_wind_51 : decode cX7_wind 51 = .ok (.getfield 33, 3) := by decide +kernel
theorem dX7_wind_54 : decode cX7_wind 54 = .ok (.aload_n 0, 1) := by decide +kernel
theorem dX7_wind_55 : decode cX7_wind 55 = .ok (.getfield 26, 3) := by decide +kernel
theorem dX7_wind_58 : decode cX7_wind 58 = .ok (.iload_n 1, 1) := by decide +kernel
theorem dX7_wind_59 : decode cX7_wind 59 = .ok (.iload_n 2, 1) := by decide +kernel
theorem dX7_wind_60 : decode cX7_wind 60 = .ok (.iload_n 3, 1) := by decide +kernel
theorem dX7_wind_61 : decode cX7_wind 61 = .ok (.iload 5, 2) := by decide +kernel
theorem dX7_wind_63 : decode cX7_wind 63 = .ok (.invokevirtual 260, 3) := by decide +kernel
theorem dX7_wind_66 : decode cX7_wind 66 = .ok (.lstore 6, 2) := by decide +kernel
theorem dX7_wind_68 : decode cX7_wind 68 = .ok (.bipush 10, 2) := by decide +kernel
theorem dX7_wind_70 : decode cX7_wind 70 = .ok (.iload 5, 2) := by decide +kernel
theorem dX7_wind_72 : decode cX7_wind 72 = .ok (.aload_n 0, 1) := by decide +kernel
theorem dX7_wind_73 : decode cX7_wind 73 = .ok (.getfield 26, 3) := by decide +kernel
theorem dX7_wind_76 : decode cX7_wind 76 = .ok (.invokevirtual 242, 3) := by decide +kernel
theorem dX7_wind_79 : decode cX7_wind 79 = .ok (.iand, 1) := by decide +kernel
theorem dX7_wind_80 : decode cX7_wind 80 = .ok (.invokestatic 228, 3) := by decide +kernel
theorem dX7_wind_83 : decode cX7_wind 83 = .ok (.invokestatic 264, 3) := by decide +kernel
theorem dX7_wind_86 : decode cX7_wind 86 = .ok (.lstore 8, 2) := by decide +kernel
theorem dX7_wind_88 : decode cX7_wind 88 = .ok (.lload 6, 2) := by decide +kernel
theorem dX7_wind_90 : decode cX7_wind 90 = .ok (.lload 8, 2) := by decide +kernel
theorem dX7_wind_92 : decode cX7_wind 92 = .ok (.invokestatic 268, 3) := by decide +kernel
theorem dX7_wind_95 : decode cX7_wind 95 = .ok (.lstore 10, 2) := by decide +kernel
theorem dX7_wind_97 : decode cX7_wind 97 = .ok (.lload 10, 2) := by decide +kernel
theorem dX7_wind_99 : decode cX7_wind 99 = .ok (.lconst 0, 1) := by decide +kernel
theorem dX7_wind_100 : decode cX7_wind 100 = .ok (.lcmp, 1) := by decide +kernel
theorem dX7_wind_101 : decode cX7_wind 101 = .ok (.ifCond .gt 7, 3) := by decide +kernel
theorem dX7_wind_104 : decode cX7_wind 104 = .ok (.ldc2_w 255, 3) := by decide +kernel
theorem dX7_wind_107 : decode cX7_wind 107 = .ok (.lreturn, 1) := by decide +kernel
theorem dX7_wind_108 : decode cX7_wind 108 = .ok (.iload 4, 2) := by decide +kernel
theorem dX7_wind_110 : decode cX7_wind 110 = .ok (.ifCond .ne 8, 3) := by decide +kernel
theorem dX7_wind_113 : decode cX7_wind 113 = .ok (.lload 6, 2) := by decide +kernel
theorem dX7_wind_115 : decode cX7_wind 115 = .ok (.goto 5, 3) := by decide +kernel
theorem dX7_wind_118 : decode cX7_wind 118 = .ok (.lload 8, 2) := by decide +kernel
theorem dX7_wind_120 : decode cX7_wind 120 = .ok (.lload 10, 2) := by decide +kernel
theorem dX7_wind_122 : decode cX7_wind 122 = .ok (.ldiv, 1) := by decide +kernel
theorem dX7_wind_123 : decode cX7_wind 123 = .ok (.lreturn, 1) := by decide +kernel
set_option maxRecDepth 20000 in
theorem ggX7_drawn_X7_isStreetless : GoodIn wsX7_drawn wsX7_isStreetless := goodIn_r _ [10, 5, 101, 102, 103, 104, 105, 106, 107, 108, 109, 110, 111, 112, 113, 114, 115, 116, 117, 118, 119] (by decide +kernel) (by decide +kernel)
set_option maxRecDepth 20000 in
theorem gX7_drawn_X7_isStreetless : GoodIn wsX7_drawn (wsV RX7 143 RX7 yX7_isStreetless wsX7_isStreetless) := goodIn_app (goodIn_of _ (by decide +kernel)) ggX7_drawn_X7_isStreetless
set_option maxRecDepth 20000 in
theorem ggX7_drawn_X7_isWithin : GoodIn wsX7_drawn wsX7_isWithin := goodIn_r _ [13] (by decide +kernel) (by decide +kernel)
set_option maxRecDepth 20000 in
theorem gX7_drawn_X7_isWithin : GoodIn wsX7_drawn (va_wsS RX7 59 yX7_isWithin wsX7_isWithin) := goodIn_app (goodIn_of _ (by decide +kernel)) ggX7_drawn_X7_isWithin
set_option maxRecDepth 20000 in
theorem ggX7_drawn_X7_isEither : GoodIn wsX7_drawn wsX7_isEither := goodIn_r _ [16] (by decide +kernel) (by decide +kernel)
set_option maxRecDepth 20000 in
theorem gX7_drawn_X7_isEither : GoodIn wsX7_drawn (va_wsS RX7 210 yX7_isEither wsX7_isEither) := goodIn_app (goodIn_of _ (by decide +kernel)) ggX7_drawn_X7_isEither
set_option maxRecDepth 20000 in
theorem ggX7_drawn_X1_years : GoodIn wsX7_drawn wsX1_years := goodIn_r _ [21, 22, 23, 24, 25, 26, 27, 28, 29, 30, 31, 32, 33, 34, 35, 36, 37, 38, 39, 40, 41, 42, 43, 44, 45, 46, 20, 47, 48, 49, 50, 51, 52, 53, 54, 55, 56, 57, 58, 59, 60, 61, 62, 63, 64, 65, 66, 67, 68, 69, 70, 71, 72, 73, 74, 75, 76, 77, 78, 79, 80, 81, 82, 83, 84, 85, 86, 87, 88, 89, 120, 121, 110, 111, 112, 113, 114, 115, 116, 117, 118, 119] (by decide +kernel) (by decide +kernel)
set_option maxRecDepth 20000 in
theorem gX7_drawn_X1_years : GoodIn wsX7_drawn (wsV RX7 273 RX1 yX1_years wsX1_years) := goodIn_app (goodIn_of _ (by decide +kernel)) ggX7_drawn_X1_years
set_option maxRecDepth 20000 in
theorem ggX7_drawn_X4_seenBySome : GoodIn wsX7_drawn wsX4_seenBySome := goodIn_r _ [93, 39, 38, 110, 111, 112, 113, 114, 115, 116, 117, 118, 119] (by decide +kernel) (by decide +kernel)
set_option maxRecDepth 20000 in
theorem gX7_drawn_X4_seenBySome : GoodIn wsX7_drawn (wsV RX7 277 RX4 yX4_seenBySome wsX4_seenBySome) := goodIn_app (goodIn_of _ (by decide +kernel)) ggX7_drawn_X4_seenBySome
set_option maxRecDepth 20000 in
theorem ggX7_drawn_J6_bitCount_0f7a4 : GoodIn wsX7_drawn wsJ6_bitCount_0f7a4 := goodIn_r _ [97, 98, 99, 100] (by decide +kernel) (by decide +kernel)
set_option maxRecDepth 20000 in
theorem gX7_drawn_J6_bitCount_0f7a4 : GoodIn wsX7_drawn (va_wsS RX7 228 yJ6_bitCount_0f7a4 wsJ6_bitCount_0f7a4) := goodIn_app (goodIn_of _ (by decide +kernel)) ggX7_drawn_J6_bitCount_0f7a4
theorem dX7_drawn_0 : decode cX7_drawn 0 = .ok (.aload_n 0, 1) := by decide +kernel
theorem dX7_drawn_1 : decode cX7_drawn 1 = .ok (.invokevirtual 143, 3) := by decide +kernel
theorem dX7_drawn_4 : decode cX7_drawn 4 = .ok (.ifCond .eq 6, 3) := by decide +kernel
theorem dX7_drawn_7 : decode cX7_drawn 7 = .ok (.ldc 147, 2) := by decide +kernel
theorem dX7_drawn_9 : decode cX7_drawn 9 = .ok (.ireturn, 1) := by decide +kernel
theorem dX7_drawn_10 : decode cX7_drawn 10 = .ok (.iload_n 1, 1) := by decide +kernel
theorem dX7_drawn_11 : decode cX7_drawn 11 = .ok (.iconst 0, 1) := by decide +kernel
theorem dX7_drawn_12 : decode cX7_drawn 12 = .ok (.bipush 60, 2) := by decide +kernel
theorem dX7_drawn_14 : decode cX7_drawn 14 = .ok (.invokestatic 59, 3) := by decide +kernel
theorem dX7_drawn_17 : decode cX7_drawn 17 = .ok (.ifCond .eq 21, 3) := by decide +kernel
theorem dX7_drawn_20 : decode cX7_drawn 20 = .ok (.iload_n 2, 1) := by decide +kernel
theorem dX7_drawn_21 : decode cX7_drawn 21 = .ok (.iconst 1, 1) := by decide +kernel
theorem dX7_drawn_22 : decode cX7_drawn 22 = .ok (.ldc_w 272, 3) := by decide +kernel
theorem dX7_drawn_25 : decode cX7_drawn 25 = .ok (.invokestatic 59, 3) := by decide +kernel
theorem dX7_drawn_28 : decode cX7_drawn 28 = .ok (.ifCond .eq 10, 3) := by decide +kernel
theorem dX7_drawn_31 : decode cX7_drawn 31 = .ok (.iload_n 3, 1) := by decide +kernel
theorem dX7_drawn_32 : decode cX7_drawn 32 = .ok (.invokestatic 210, 3) := by decide +kernel
theorem dX7_drawn_35 : decode cX7_drawn 35 = .ok (.ifCond .ne 6, 3) := by decide +kernel
theorem dX7_drawn_38 : decode cX7_drawn 38 = .ok (.ldc 63, 2) := by decide +kernel
theorem dX7_drawn_40 : decode cX7_drawn 40 = .ok (.ireturn, 1) := by decide +kernel
theorem dX7_drawn_41 : decode cX7_drawn 41 = .ok (.aload_n 0, 1) := by decide +kernel
theorem dX7_drawn_42 : decode cX7_drawn 42 = .ok (.getfield 33, 3) := by decide +kernel
theorem dX7_drawn_45 : decode cX7_drawn 45 = .ok (.aload_n 0, 1) := by decide +kernel
theorem dX7_drawn_46 : decode cX7_drawn 46 = .ok (.getfield 26, 3) := by decide +kernel
theorem dX7_drawn_49 : decode cX7_drawn 49 = .ok (.iload_n 1, 1) := by decide +kernel
theorem dX7_drawn_50 : decode cX7_drawn 50 = .ok (.iload_n 2, 1) := by decide +kernel
theorem dX7_drawn_51 : decode cX7_drawn 51 = .ok (.invokevirtual 273, 3) := by decide +kernel
theorem dX7_drawn_54 : decode cX7_drawn 54 = .ok (.astore 4, 2) := by decide +kernel
theorem dX7_drawn_56 : decode cX7_drawn 56 = .ok (.iload_n 3, 1) := by decide +kernel
theorem dX7_drawn_57 : decode cX7_drawn 57 = .ok (.ifCond .ne 11, 3) := by decide +kernel
theorem dX7_drawn_60 : decode cX7_drawn 60 = .ok (.aload 4, 2) := by decide +kernel
theorem dX7_drawn_62 : decode cX7_drawn 62 = .ok (.getfield 157, 3) := by decide +kernel
theorem dX7_drawn_65 : decode cX7_drawn 65 = .ok (.goto 8, 3) := by decide +kernel
theorem dX7_drawn_68 : decode cX7_drawn 68 = .ok (.aload 4, 2) := by decide +kernel
theorem dX7_drawn_70 : decode cX7_drawn 70 = .ok (.invokevirtual 277, 3) := by decide +kernel
theorem dX7_drawn_73 : decode cX7_drawn 73 = .ok (.invokestatic 228, 3) := by decide +kernel
theorem dX7_drawn_76 : decode cX7_drawn 76 = .ok (.ireturn, 1) := by decide +kernel
set_option maxRecDepth 20000 in
theorem ggX7_image_X7_isWithin : GoodIn wsX7_image wsX7_isWithin := goodIn_r _ [8] (by decide +kernel) (by decide +kernel)
set_option maxRecDepth 20000 in
theorem gX7_image_X7_isWithin : GoodIn wsX7_image (va_wsS RX7 59 yX7_isWithin wsX7_isWithin) := goodIn_app (goodIn_of _ (by decide +kernel)) ggX7_image_X7_isWithin
set_option maxRecDepth 20000 in
theorem ggX7_image_X7_isStreetless : GoodIn wsX7_image wsX7_isStreetless := goodIn_r _ [12, 4, 32, 33, 34, 35, 36, 37, 38, 39, 40, 41, 42, 43, 44, 45, 46, 47, 48, 49, 50] (by decide +kernel) (by decide +kernel)
set_option maxRecDepth 20000 in
theorem gX7_image_X7_isStreetless : GoodIn wsX7_image (wsV RX7 143 RX7 yX7_isStreetless wsX7_isStreetless) := goodIn_app (goodIn_of _ (by decide +kernel)) ggX7_image_X7_isStreetless
set_option maxRecDepth 20000 in
theorem ggX7_image_X4_take : GoodIn wsX7_image wsX4_take := goodIn_r _ [17, 18, 19, 20, 21, 22, 23, 24, 25, 26, 27, 28, 29, 30, 31, 41, 42, 43, 44, 45, 46, 47, 48, 49, 50] (by decide +kernel) (by decide +kernel)
set_option maxRecDepth 20000 in
theorem gX7_image_X4_take : GoodIn wsX7_image (wsV RX7 133 RX4 yX4_take wsX4_take) := goodIn_app (goodIn_of _ (by decide +kernel)) ggX7_image_X4_take
theorem dX7_image_0 : decode cX7_image 0 = .ok (.iload_n 1, 1) := by decide +kernel
theorem dX7_image_1 : decode cX7_image 1 = .ok (.iconst 0, 1) := by decide +kernel
theorem dX7_image_2 : decode cX7_image 2 = .ok (.iconst 1, 1) := by decide +kernel
theorem dX7_image_3 : decode cX7_image 3 = .ok (.invokestatic 59, 3) := by decide +kernel
theorem dX7_image_6 : decode cX7_image 6 = .ok (.ifCond .ne 6, 3) := by decide +kernel
theorem dX7_image_9 : decode cX7_image 9 = .ok (.ldc 63, 2) := by decide +kernel
theorem dX7_image_11 : decode cX7_image 11 = .ok (.ireturn, 1) := by decide +kernel
theorem dX7_image_12 : decode cX7_image 12 = .ok (.aload_n 0, 1) := by decide +kernel
theorem dX7_image_13 : decode cX7_image 13 = .ok (.invokevirtual 143, 3) := by decide +kernel
theorem dX7_image_16 : decode cX7_image 16 = .ok (.ifCond .eq 6, 3) := by decide +kernel
theorem dX7_image_19 : decode cX7_image 19 = .ok (.ldc 147, 2) := by decide +kernel
theorem dX7_image_21 : decode cX7_image 21 = .ok (.ireturn, 1) := by decide +kernel
theorem dX7_image_22 : decode cX7_image 22 = .ok (.aload_n 0, 1) := by decide +kernel
theorem dX7_image_23 : decode cX7_image 23 = .ok (.getfield 44, 3) := by decide +kernel
theorem dX7_image_26 : decode cX7_image 26 = .ok (.iload_n 1, 1) := by decide +kernel
theorem dX7_image_27 : decode cX7_image 27 = .ok (.aaload, 1) := by decide +kernel
theorem dX7_image_28 : decode cX7_image 28 = .ok (.aload_n 0, 1) := by decide +kernel
theorem dX7_image_29 : decode cX7_image 29 = .ok (.getfield 26, 3) := by decide +kernel
theorem dX7_image_32 : decode cX7_image 32 = .ok (.invokevirtual 133, 3) := by decide +kernel
theorem dX7_image_35 : decode cX7_image 35 = .ok (.iconst 1, 1) := by decide +kernel
theorem dX7_image_36 : decode cX7_image 36 = .ok (.ireturn, 1) := by decide +kernel
set_option maxRecDepth 20000 in
theorem ggX7_restore_X7_isWithin : GoodIn wsX7_restore wsX7_isWithin := goodIn_r _ [9] (by decide +kernel) (by decide +kernel)
set_option maxRecDepth 20000 in
theorem gX7_restore_X7_isWithin : GoodIn wsX7_restore (va_wsS RX7 59 yX7_isWithin wsX7_isWithin) := goodIn_app (goodIn_of _ (by decide +kernel)) ggX7_restore_X7_isWithin
set_option maxRecDepth 20000 in
theorem ggX7_restore_X4_take : GoodIn wsX7_restore wsX4_take := goodIn_r _ [14, 15, 16, 17, 18, 19, 20, 21, 22, 23, 24, 25, 26, 27, 28, 44, 45, 46, 47, 48, 49, 50, 51, 52, 53] (by decide +kernel) (by decide +kernel)
set_option maxRecDepth 20000 in
theorem gX7_restore_X4_take : GoodIn wsX7_restore (wsV RX7 133 RX4 yX4_take wsX4_take) := goodIn_app (goodIn_of _ (by decide +kernel)) ggX7_restore_X4_take
set_option maxRecDepth 20000 in
theorem ggX7_restore_X0_forget : GoodIn wsX7_restore wsX0_forget := goodIn_r _ [33, 34, 54, 55, 56] (by decide +kernel) (by decide +kernel)
set_option maxRecDepth 20000 in
theorem gX7_restore_X0_forget : GoodIn wsX7_restore (wsV RX7 137 RX0 yX0_forget wsX0_forget) := goodIn_app (goodIn_of _ (by decide +kernel)) ggX7_restore_X0_forget
theorem dX7_restore_0 : decode cX7_restore 0 = .ok (.iload_n 1, 1) := by decide +kernel
theorem dX7_restore_1 : decode cX7_restore 1 = .ok (.iconst 0, 1) := by decide +kernel
theorem dX7_restore_2 : decode cX7_restore 2 = .ok (.iconst 1, 1) := by decide +kernel
theorem dX7_restore_3 : decode cX7_restore 3 = .ok (.invokestatic 59, 3) := by decide +kernel
theorem dX7_restore_6 : decode cX7_restore 6 = .ok (.ifCond .ne 6, 3) := by decide +kernel
theorem dX7_restore_9 : decode cX7_restore 9 = .ok (.ldc 63, 2) := by decide +kernel
theorem dX7_restore_11 : decode cX7_restore 11 = .ok (.ireturn, 1) := by decide +kernel
theorem dX7_restore_12 : decode cX7_restore 12 = .ok (.aload_n 0, 1) := by decide +kernel
theorem dX7_restore_13 : decode cX7_restore 13 = .ok (.getfield 44, 3) := by decide +kernel
theorem dX7_restore_16 : decode cX7_restore 16 = .ok (.iload_n 1, 1) := by decide +kernel
theorem dX7_restore_17 : decode cX7_restore 17 = .ok (.aaload, 1) := by decide +kernel
theorem dX7_restore_18 : decode cX7_restore 18 = .ok (.getfield 140, 3) := by decide +kernel
theorem dX7_restore_21 : decode cX7_restore 21 = .ok (.ifCond .ne 6, 3) := by decide +kernel
theorem dX7_restore_24 : decode cX7_restore 24 = .ok (.ldc 147, 2) := by decide +kernel
theorem dX7_restore_26 : decode cX7_restore 26 = .ok (.ireturn, 1) := by decide +kernel
theorem dX7_restore_27 : decode cX7_restore 27 = .ok (.aload_n 0, 1) := by decide +kernel
theorem dX7_restore_28 : decode cX7_restore 28 = .ok (.getfield 26, 3) := by decide +kernel
theorem dX7_restore_31 : decode cX7_restore 31 = .ok (.aload_n 0, 1) := by decide +kernel
theorem dX7_restore_32 : decode cX7_restore 32 = .ok (.getfield 44, 3) := by decide +kernel
theorem dX7_restore_35 : decode cX7_restore 35 = .ok (.iload_n 1, 1) := by decide +kernel
theorem dX7_restore_36 : decode cX7_restore 36 = .ok (.aaload, 1) := by decide +kernel
theorem dX7_restore_37 : decode cX7_restore 37 = .ok (.invokevirtual 133, 3) := by decide +kernel
theorem dX7_restore_40 : decode cX7_restore 40 = .ok (.aload_n 0, 1) := by decide +kernel
theorem dX7_restore_41 : decode cX7_restore 41 = .ok (.getfield 40, 3) := by decide +kernel
theorem dX7_restore_44 : decode cX7_restore 44 = .ok (.invokevirtual 137, 3) := by decide +kernel
theorem dX7_restore_47 : decode cX7_restore 47 = .ok (.iconst 1, 1) := by decide +kernel
theorem dX7_restore_48 : decode cX7_restore 48 = .ok (.ireturn, 1) := by decide +kernel
set_option maxRecDepth 20000 in
theorem ggX7_kind_X7_isWindow : GoodIn wsX7_kind wsX7_isWindow := goodIn_r _ [7, 1, 8, 9, 10, 11, 12, 13, 14, 15, 16, 17, 18, 19, 20, 21, 22, 23, 24, 25, 26] (by decide +kernel) (by decide +kernel)
set_option maxRecDepth 20000 in
theorem gX7_kind_X7_isWindow : GoodIn wsX7_kind (wsV RX7 160 RX7 yX7_isWindow wsX7_isWindow) := goodIn_app (goodIn_of _ (by decide +kernel)) ggX7_kind_X7_isWindow
theorem dX7_kind_0 : decode cX7_kind 0 = .ok (.aload_n 0, 1) := by decide +kernel
theorem dX7_kind_1 : decode cX7_kind 1 = .ok (.iload_n 1, 1) := by decide +kernel
theorem dX7_kind_2 : decode cX7_kind 2 = .ok (.invokevirtual 160, 3) := by decide +kernel
theorem dX7_kind_5 : decode cX7_kind 5 = .ok (.ifCond .eq 15, 3) := by decide +kernel
theorem dX7_kind_8 : decode cX7_kind 8 = .ok (.aload_n 0, 1) := by decide +kernel
theorem dX7_kind_9 : decode cX7_kind 9 = .ok (.getfield 26, 3) := by decide +kernel
theorem dX7_kind_12 : decode cX7_kind 12 = .ok (.getfield 280, 3) := by decide +kernel
theorem dX7_kind_15 : decode cX7_kind 15 = .ok (.iload_n 1, 1) := by decide +kernel
theorem dX7_kind_16 : decode cX7_kind 16 = .ok (.iaload, 1) := by decide +kernel
theorem dX7_kind_17 : decode cX7_kind 17 = .ok (.goto 5, 3) := by decide +kernel
theorem dX7_kind_20 : decode cX7_kind 20 = .ok (.ldc 63, 2) := by decide +kernel
theorem dX7_kind_22 : decode cX7_kind 22 = .ok (.ireturn, 1) := by decide +kernel
set_option maxRecDepth 20000 in
theorem ggX7_as_X7_isWindow : GoodIn wsX7_as wsX7_isWindow := goodIn_r _ [7, 2, 25, 26, 27, 28, 29, 30, 31, 32, 33, 34, 35, 36, 37, 38, 39, 40, 41, 42, 43] (by decide +kernel) (by decide +kernel)
set_option maxRecDepth 20000 in
theorem gX7_as_X7_isWindow : GoodIn wsX7_as (wsV RX7 160 RX7 yX7_isWindow wsX7_isWindow) := goodIn_app (goodIn_of _ (by decide +kernel)) ggX7_as_X7_isWindow
set_option maxRecDepth 20000 in
theorem ggX7_as_X7_isWithin : GoodIn wsX7_as wsX7_isWithin := goodIn_r _ [10] (by decide +kernel) (by decide +kernel)
set_option maxRecDepth 20000 in
theorem gX7_as_X7_isWithin : GoodIn wsX7_as (va_wsS RX7 59 yX7_isWithin wsX7_isWithin) := goodIn_app (goodIn_of _ (by decide +kernel)) ggX7_as_X7_isWithin
set_option maxRecDepth 20000 in
theorem ggX7_as_X7_isOfKind : GoodIn wsX7_as wsX7_isOfKind := goodIn_r _ [13, 14, 8, 9, 6, 10] (by decide +kernel) (by decide +kernel)
set_option maxRecDepth 20000 in
theorem gX7_as_X7_isOfKind : GoodIn wsX7_as (va_wsS RX7 283 yX7_isOfKind wsX7_isOfKind) := goodIn_app (goodIn_of _ (by decide +kernel)) ggX7_as_X7_isOfKind
set_option maxRecDepth 20000 in
theorem ggX7_as_X7_unfound : GoodIn wsX7_as wsX7_unfound := goodIn_r _ [18, 19, 25, 26, 27, 28, 29, 30, 31, 32, 33] (by decide +kernel) (by decide +kernel)
set_option maxRecDepth 20000 in
theorem gX7_as_X7_unfound : GoodIn wsX7_as (wsV RX7 72 RX7 yX7_unfound wsX7_unfound) := goodIn_app (goodIn_of _ (by decide +kernel)) ggX7_as_X7_unfound
set_option maxRecDepth 20000 in
theorem ggX7_as_X7_found : GoodIn wsX7_as wsX7_found := goodIn_r _ [23, 19, 24, 25, 26, 27, 28, 29, 30, 31, 32, 33] (by decide +kernel) (by decide +kernel)
set_option maxRecDepth 20000 in
theorem gX7_as_X7_found : GoodIn wsX7_as (wsV RX7 64 RX7 yX7_found wsX7_found) := goodIn_app (goodIn_of _ (by decide +kernel)) ggX7_as_X7_found
theorem dX7_as_0 : decode cX7_as 0 = .ok (.aload_n 0, 1) := by decide +kernel
theorem dX7_as_1 : decode cX7_as 1 = .ok (.iload_n 1, 1) := by decide +kernel
theorem dX7_as_2 : decode cX7_as 2 = .ok (.invokevirtual 160, 3) := by decide +kernel
theorem dX7_as_5 : decode cX7_as 5 = .ok (.ifCond .eq 12, 3) := by decide +kernel
theorem dX7_as_8 : decode cX7_as 8 = .ok (.iload_n 2, 1) := by decide +kernel
theorem dX7_as_9 : decode cX7_as 9 = .ok (.iconst 0, 1) := by decide +kernel
theorem dX7_as_10 : decode cX7_as 10 = .ok (.iconst 5, 1) := by decide +kernel
theorem dX7_as_11 : decode cX7_as 11 = .ok (.invokestatic 59, 3) := by decide +kernel
theorem dX7_as_14 : decode cX7_as 14 = .ok (.ifCond .ne 6, 3) := by decide +kernel
theorem dX7_as_17 : decode cX7_as 17 = .ok (.ldc 63, 2) := by decide +kernel
theorem dX7_as_19 : decode cX7_as 19 = .ok (.ireturn, 1) := by decide +kernel
theorem dX7_as_20 : decode cX7_as 20 = .ok (.aload_n 0, 1) := by decide +kernel
theorem dX7_as_21 : decode cX7_as 21 = .ok (.getfield 26, 3) := by decide +kernel
theorem dX7_as_24 : decode cX7_as 24 = .ok (.getfield 280, 3) := by decide +kernel
theorem dX7_as_27 : decode cX7_as 27 = .ok (.iload_n 1, 1) := by decide +kernel
theorem dX7_as_28 : decode cX7_as 28 = .ok (.iaload, 1) := by decide +kernel
theorem dX7_as_29 : decode cX7_as 29 = .ok (.iload_n 2, 1) := by decide +kernel
theorem dX7_as_30 : decode cX7_as 30 = .ok (.invokestatic 283, 3) := by decide +kernel
theorem dX7_as_33 : decode cX7_as 33 = .ok (.ifCond .eq 11, 3) := by decide +kernel
theorem dX7_as_36 : decode cX7_as 36 = .ok (.aload_n 0, 1) := by decide +kernel
theorem dX7_as_37 : decode cX7_as 37 = .ok (.iload_n 1, 1) := by decide +kernel
theorem dX7_as_38 : decode cX7_as 38 = .ok (.invokevirtual 72, 3) := by decide +kernel
theorem dX7_as_41 : decode cX7_as 41 = .ok (.goto 8, 3) := by decide +kernel
theorem dX7_as_44 : decode cX7_as 44 = .ok (.aload_n 0, 1) := by decide +kernel
theorem dX7_as_45 : decode cX7_as 45 = .ok (.iconst 3, 1) := by decide +kernel
theorem dX7_as_46 : decode cX7_as 46 = .ok (.invokevirtual 64, 3) := by decide +kernel
theorem dX7_as_49 : decode cX7_as 49 = .ok (.ireturn, 1) := by decide +kernel
set_option maxRecDepth 20000 in
theorem ggX7_ask_X7_isWindow : GoodIn wsX7_ask wsX7_isWindow := goodIn_r _ [8, 3, 31, 32, 33, 34, 35, 36, 37, 38, 39, 42, 43, 44, 45, 46, 47, 48, 49, 50, 51] (by decide +kernel) (by decide +kernel)
set_option maxRecDepth 20000 in
theorem gX7_ask_X7_isWindow : GoodIn wsX7_ask (wsV RX7 160 RX7 yX7_isWindow wsX7_isWindow) := goodIn_app (goodIn_of _ (by decide +kernel)) ggX7_ask_X7_isWindow
set_option maxRecDepth 20000 in
theorem ggX7_ask_X7_isEither : GoodIn wsX7_ask wsX7_isEither := goodIn_r _ [11] (by decide +kernel) (by decide +kernel)
set_option maxRecDepth 20000 in
theorem gX7_ask_X7_isEither : GoodIn wsX7_ask (va_wsS RX7 210 yX7_isEither wsX7_isEither) := goodIn_app (goodIn_of _ (by decide +kernel)) ggX7_ask_X7_isEither
set_option maxRecDepth 20000 in
theorem ggX7_ask_X7_firstBody : GoodIn wsX7_ask wsX7_firstBody := goodIn_r _ [14, 15, 16, 17, 18, 19, 7, 20] (by decide +kernel) (by decide +kernel)
set_option maxRecDepth 20000 in
theorem gX7_ask_X7_firstBody : GoodIn wsX7_ask (va_wsS RX7 287 yX7_firstBody wsX7_firstBody) := goodIn_app (goodIn_of _ (by decide +kernel)) ggX7_ask_X7_firstBody
set_option maxRecDepth 20000 in
theorem ggX7_ask_X7_answer : GoodIn wsX7_ask wsX7_answer := goodIn_r _ [23, 24, 25, 26, 27, 28, 29, 30, 21, 22, 7, 12, 13, 14, 15, 16, 17, 18, 19, 20, 42, 43, 44, 45, 46, 47, 48, 49, 50, 51, 40, 41] (by decide +kernel) (by decide +kernel)
set_option maxRecDepth 20000 in
theorem gX7_ask_X7_answer : GoodIn wsX7_ask (va_wsS RX7 290 yX7_answer wsX7_answer) := goodIn_app (goodIn_of _ (by decide +kernel)) ggX7_ask_X7_answer
theorem dX7_ask_0 : decode cX7_ask 0 = .ok (.aload_n 0, 1) := by decide +kernel
theorem dX7_ask_1 : decode cX7_ask 1 = .ok (.iload_n 1, 1) := by decide +kernel
theorem dX7_ask_2 : decode cX7_ask 2 = .ok (.invokevirtual 160, 3) := by decide +kernel
theorem dX7_ask_5 : decode cX7_ask 5 = .ok (.ifCond .eq 10, 3) := by decide +kernel
theorem dX7_ask_8 : decode cX7_ask 8 = .ok (.iload_n 2, 1) := by decide +kernel
theorem dX7_ask_9 : decode cX7_ask 9 = .ok (.invokestatic 210, 3) := by decide +kernel
theorem dX7_ask_12 : decode cX7_ask 12 = .ok (.ifCond .ne 6, 3) := by decide +kernel
theorem dX7_ask_15 : decode cX7_ask 15 = .ok (.ldc 63, 2) := by decide +kernel
theorem dX7_ask_17 : decode cX7_ask 17 = .ok (.ireturn, 1) := by decide +kernel
theorem dX7_ask_18 : decode cX7_ask 18 = .ok (.aload_n 0, 1) := by decide +kernel
theorem dX7_ask_19 : decode cX7_ask 19 = .ok (.getfield 51, 3) := by decide +kernel
theorem dX7_ask_22 : decode cX7_ask 22 = .ok (.iconst 0, 1) := by decide +kernel
theorem dX7_ask_23 : decode cX7_ask 23 = .ok (.putfield 286, 3) := by decide +kernel
theorem dX7_ask_26 : decode cX7_ask 26 = .ok (.aload_n 0, 1) := by decide +kernel
theorem dX7_ask_27 : decode cX7_ask 27 = .ok (.getfield 26, 3) := by decide +kernel
theorem dX7_ask_30 : decode cX7_ask 30 = .ok (.aload_n 0, 1) := by decide +kernel
theorem dX7_ask_31 : decode cX7_ask 31 = .ok (.getfield 51, 3) := by decide +kernel
theorem dX7_ask_34 : decode cX7_ask 34 = .ok (.aload_n 0, 1) := by decide +kernel
theorem dX7_ask_35 : decode cX7_ask 35 = .ok (.getfield 26, 3) := by decide +kernel
theorem dX7_ask_38 : decode cX7_ask 38 = .ok (.getfield 280, 3) := by decide +kernel
theorem dX7_ask_41 : decode cX7_ask 41 = .ok (.iload_n 1, 1) := by decide +kernel
theorem dX7_ask_42 : decode cX7_ask 42 = .ok (.iaload, 1) := by decide +kernel
theorem dX7_ask_43 : decode cX7_ask 43 = .ok (.iload_n 2, 1) := by decide +kernel
theorem dX7_ask_44 : decode cX7_ask 44 = .ok (.invokestatic 287, 3) := by decide +kernel
theorem dX7_ask_47 : decode cX7_ask 47 = .ok (.iload_n 1, 1) := by decide +kernel
theorem dX7_ask_48 : decode cX7_ask 48 = .ok (.iconst 0, 1) := by decide +kernel
theorem dX7_ask_49 : decode cX7_ask 49 = .ok (.invokestatic 290, 3) := by decide +kernel
theorem dX7_ask_52 : decode cX7_ask 52 = .ok (.ireturn, 1) := by decide +kernel
set_option maxRecDepth 20000 in
theorem ggX7_trace_X7_isWithin : GoodIn wsX7_trace wsX7_isWithin := goodIn_r _ [6] (by decide +kernel) (by decide +kernel)
set_option maxRecDepth 20000 in
theorem gX7_trace_X7_isWithin : GoodIn wsX7_trace (va_wsS RX7 59 yX7_isWithin wsX7_isWithin) := goodIn_app (goodIn_of _ (by decide +kernel)) ggX7_trace_X7_isWithin
theorem dX7_trace_0 : decode cX7_trace 0 = .ok (.iload_n 1, 1) := by decide +kernel
theorem dX7_trace_1 : decode cX7_trace 1 = .ok (.iconst 0, 1) := by decide +kernel
theorem dX7_trace_2 : decode cX7_trace 2 = .ok (.aload_n 0, 1) := by decide +kernel
theorem dX7_trace_3 : decode cX7_trace 3 = .ok (.getfield 51, 3) := by decide +kernel
theorem dX7_trace_6 : decode cX7_trace 6 = .ok (.getfield 286, 3) := by decide +kernel
theorem dX7_trace_9 : decode cX7_trace 9 = .ok (.iconst 1, 1) := by decide +kernel
theorem dX7_trace_10 : decode cX7_trace 10 = .ok (.isub, 1) := by decide +kernel
theorem dX7_trace_11 : decode cX7_trace 11 = .ok (.invokestatic 59, 3) := by decide +kernel
theorem dX7_trace_14 : decode cX7_trace 14 = .ok (.ifCond .eq 15, 3) := by decide +kernel
theorem dX7_trace_17 : decode cX7_trace 17 = .ok (.aload_n 0, 1) := by decide +kernel
theorem dX7_trace_18 : decode cX7_trace 18 = .ok (.getfield 51, 3) := by decide +kernel
theorem dX7_trace_21 : decode cX7_trace 21 = .ok (.getfield 294, 3) := by decide +kernel
theorem dX7_trace_24 : decode cX7_trace 24 = .ok (.iload_n 1, 1) := by decide +kernel
theorem dX7_trace_25 : decode cX7_trace 25 = .ok (.iaload, 1) := by decide +kernel
theorem dX7_trace_26 : decode cX7_trace 26 = .ok (.goto 5, 3) := by decide +kernel
theorem dX7_trace_29 : decode cX7_trace 29 = .ok (.ldc 227, 2) := by decide +kernel
theorem dX7_trace_31 : decode cX7_trace 31 = .ok (.ireturn, 1) := by decide +kernel
set_option maxRecDepth 20000 in
theorem ggX7_count_X3_present : GoodIn wsX7_count wsX3_present := goodIn_r _ [10, 11, 12, 13, 9, 14, 15, 48, 49, 50] (by decide +kernel) (by decide +kernel)
set_option maxRecDepth 20000 in
theorem gX7_count_X3_present : GoodIn wsX7_count (wsV RX7 297 RX3 yX3_present wsX3_present) := goodIn_app (goodIn_of _ (by decide +kernel)) ggX7_count_X3_present
set_option maxRecDepth 20000 in
theorem ggX7_count_X4_date : GoodIn wsX7_count wsX4_date := goodIn_r _ [20, 21, 22, 32, 33, 34, 35, 36, 37, 38, 39, 40, 41] (by decide +kernel) (by decide +kernel)
set_option maxRecDepth 20000 in
theorem gX7_count_X4_date : GoodIn wsX7_count (wsV RX7 198 RX4 yX4_date wsX4_date) := goodIn_app (goodIn_of _ (by decide +kernel)) ggX7_count_X4_date
theorem dX7_count_0 : decode cX7_count 0 = .ok (.iload_n 1, 1) := by decide +kernel
theorem dX7_count_1 : decode cX7_count 1 = .ok (.tableswitch 123 0 8 #[51, 59, 67, 75, 83, 91, 99, 107, 115], 51) := by decide +kernel
theorem dX7_count_52 : decode cX7_count 52 = .ok (.aload_n 0, 1) := by decide +kernel
theorem dX7_count_53 : decode cX7_count 53 = .ok (.getfield 10, 3) := by decide +kernel
theorem dX7_count_56 : decode cX7_count 56 = .ok (.invokevirtual 297, 3) := by decide +kernel
theorem dX7_count_59 : decode cX7_count 59 = .ok (.ireturn, 1) := by decide +kernel
theorem dX7_count_60 : decode cX7_count 60 = .ok (.aload_n 0, 1) := by decide +kernel
theorem dX7_count_61 : decode cX7_count 61 = .ok (.getfield 26, 3) := by decide +kernel
theorem dX7_count_64 : decode cX7_count 64 = .ok (.getfield 140, 3) := by decide +kernel
theorem dX7_count_67 : decode cX7_count 67 = .ok (.ireturn, 1) := by decide +kernel
theorem dX7_count_68 : decode cX7_count 68 = .ok (.aload_n 0, 1) := by decide +kernel
theorem dX7_count_69 : decode cX7_count 69 = .ok (.getfield 26, 3) := by decide +kernel
theorem dX7_count_72 : decode cX7_count 72 = .ok (.getfield 148, 3) := by decide +kernel
theorem dX7_count_75 : decode cX7_count 75 = .ok (.ireturn, 1) := by decide +kernel
theorem dX7_count_76 : decode cX7_count 76 = .ok (.aload_n 0, 1) := by decide +kernel
theorem dX7_count_77 : decode cX7_count 77 = .ok (.getfield 26, 3) := by decide +kernel
theorem dX7_count_80 : decode cX7_count 80 = .ok (.invokevirtual 198, 3) := by decide +kernel
theorem dX7_count_83 : decode cX7_count 83 = .ok (.ireturn, 1) := by decide +kernel
theorem dX7_count_84 : decode cX7_count 84 = .ok (.aload_n 0, 1) := by decide +kernel
theorem dX7_count_85 : decode cX7_count 85 = .ok (.getfield 26, 3) := by decide +kernel
theorem dX7_count_88 : decode cX7_count 88 = .ok (.getfield 300, 3) := by decide +kernel
theorem dX7_count_91 : decode cX7_count 91 = .ok (.ireturn, 1) := by decide +kernel
theorem dX7_count_92 : decode cX7_count 92 = .ok (.aload_n 0, 1) := by decide +kernel
theorem dX7_count_93 : decode cX7_count 93 = .ok (.getfield 26, 3) := by decide +kernel
theorem dX7_count_96 : decode cX7_count 96 = .ok (.getfield 185, 3) := by decide +kernel
theorem dX7_count_99 : decode cX7_count 99 = .ok (.ireturn, 1) := by decide +kernel
theorem dX7_count_100 : decode cX7_count 100 = .ok (.aload_n 0, 1) := by decide +kernel
theorem dX7_count_101 : decode cX7_count 101 = .ok (.getfield 26, 3) := by decide +kernel
theorem dX7_count_104 : decode cX7_count 104 = .ok (.getfield 157, 3) := by decide +kernel
theorem dX7_count_107 : decode cX7_count 107 = .ok (.ireturn, 1) := by decide +kernel
theorem dX7_count_108 : decode cX7_count 108 = .ok (.aload_n 0, 1) := by decide +kernel
theorem dX7_count_109 : decode cX7_count 109 = .ok (.getfield 40, 3) := by decide +kernel
theorem dX7_count_112 : decode cX7_count 112 = .ok (.getfield 192, 3) := by decide +kernel
theorem dX7_count_115 : decode cX7_count 115 = .ok (.ireturn, 1) := by decide +kernel
theorem dX7_count_116 : decode cX7_count 116 = .ok (.aload_n 0, 1) := by decide +kernel
theorem dX7_count_117 : decode cX7_count 117 = .ok (.getfield 19, 3) := by decide +kernel
theorem dX7_count_120 : decode cX7_count 120 = .ok (.getfield 105, 3) := by decide +kernel
theorem dX7_count_123 : decode cX7_count 123 = .ok (.ireturn, 1) := by decide +kernel
theorem dX7_count_124 : decode cX7_count 124 = .ok (.ldc 63, 2) := by decide +kernel
theorem dX7_count_126 : decode cX7_count 126 = .ok (.ireturn, 1) := by decide +kernel
theorem dX7_status_0 : decode cX7_status 0 = .ok (.aload_n 0, 1) := by decide +kernel
theorem dX7_status_1 : decode cX7_status 1 = .ok (.getfield 303, 3) := by decide +kernel
theorem dX7_status_4 : decode cX7_status 4 = .ok (.ireturn, 1) := by decide +kernel
theorem dX7_found_0 : decode cX7_found 0 = .ok (.aload_n 0, 1) := by decide +kernel
theorem dX7_found_1 : decode cX7_found 1 = .ok (.iload_n 1, 1) := by decide +kernel
theorem dX7_found_2 : decode cX7_found 2 = .ok (.putfield 303, 3) := by decide +kernel
theorem dX7_found_5 : decode cX7_found 5 = .ok (.ldc_w 306, 3) := by decide +kernel
theorem dX7_found_8 : decode cX7_found 8 = .ok (.iload_n 1, 1) := by decide +kernel
theorem dX7_found_9 : decode cX7_found 9 = .ok (.isub, 1) := by decide +kernel
theorem dX7_found_10 : decode cX7_found 10 = .ok (.ireturn, 1) := by decide +kernel
theorem dX7_unfound_0 : decode cX7_unfound 0 = .ok (.aload_n 0, 1) := by decide +kernel
theorem dX7_unfound_1 : decode cX7_unfound 1 = .ok (.iconst 0, 1) := by decide +kernel
theorem dX7_unfound_2 : decode cX7_unfound 2 = .ok (.putfield 303, 3) := by decide +kernel
theorem dX7_unfound_5 : decode cX7_unfound 5 = .ok (.iload_n 1, 1) := by decide +kernel
theorem dX7_unfound_6 : decode cX7_unfound 6 = .ok (.ireturn, 1) := by decide +kernel
theorem dX7_isStreetless_0 : decode cX7_isStreetless 0 = .ok (.aload_n 0, 1) := by decide +kernel
theorem dX7_isStreetless_1 : decode cX7_isStreetless 1 = .ok (.getfield 26, 3) := by decide +kernel
theorem dX7_isStreetless_4 : decode cX7_isStreetless 4 = .ok (.getfield 140, 3) := by decide +kernel
theorem dX7_isStreetless_7 : decode cX7_isStreetless 7 = .ok (.ifCond .ne 7, 3) := by decide +kernel
theorem dX7_isStreetless_10 : decode cX7_isStreetless 10 = .ok (.iconst 1, 1) := by decide +kernel
theorem dX7_isStreetless_11 : decode cX7_isStreetless 11 = .ok (.goto 4, 3) := by decide +kernel
theorem dX7_isStreetless_14 : decode cX7_isStreetless 14 = .ok (.iconst 0, 1) := by decide +kernel
theorem dX7_isStreetless_15 : decode cX7_isStreetless 15 = .ok (.ireturn, 1) := by decide +kernel
theorem dX7_isWindow_0 : decode cX7_isWindow 0 = .ok (.iload_n 1, 1) := by decide +kernel
theorem dX7_isWindow_1 : decode cX7_isWindow 1 = .ok (.ifCond .lt 18, 3) := by decide +kernel
theorem dX7_isWindow_4 : decode cX7_isWindow 4 = .ok (.iload_n 1, 1) := by decide +kernel
theorem dX7_isWindow_5 : decode cX7_isWindow 5 = .ok (.aload_n 0, 1) := by decide +kernel
theorem dX7_isWindow_6 : decode cX7_isWindow 6 = .ok (.getfield 26, 3) := by decide +kernel
theorem dX7_isWindow_9 : decode cX7_isWindow 9 = .ok (.getfield 140, 3) := by decide +kernel
theorem dX7_isWindow_12 : decode cX7_isWindow 12 = .ok (.if_icmp .ge 7, 3) := by decide +kernel
theorem dX7_isWindow_15 : decode cX7_isWindow 15 = .ok (.iconst 1, 1) := by decide +kernel
theorem dX7_isWindow_16 : decode cX7_isWindow 16 = .ok (.goto 4, 3) := by decide +kernel
theorem dX7_isWindow_19 : decode cX7_isWindow 19 = .ok (.iconst 0, 1) := by decide +kernel
theorem dX7_isWindow_20 : decode cX7_isWindow 20 = .ok (.ireturn, 1) := by decide +kernel
theorem dX7_isRow_0 : decode cX7_isRow 0 = .ok (.iload_n 0, 1) := by decide +kernel
theorem dX7_isRow_1 : decode cX7_isRow 1 = .ok (.ifCond .lt 13, 3) := by decide +kernel
theorem dX7_isRow_4 : decode cX7_isRow 4 = .ok (.iload_n 0, 1) := by decide +kernel
theorem dX7_isRow_5 : decode cX7_isRow 5 = .ok (.bipush 8, 2) := by decide +kernel
theorem dX7_isRow_7 : decode cX7_isRow 7 = .ok (.if_icmp .ge 7, 3) := by decide +kernel
theorem dX7_isRow_10 : decode cX7_isRow 10 = .ok (.iconst 1, 1) := by decide +kernel
theorem dX7_isRow_11 : decode cX7_isRow 11 = .ok (.goto 4, 3) := by decide +kernel
theorem dX7_isRow_14 : decode cX7_isRow 14 = .ok (.iconst 0, 1) := by decide +kernel
theorem dX7_isRow_15 : decode cX7_isRow 15 = .ok (.ireturn, 1) := by decide +kernel
theorem dX7_isEither_0 : decode cX7_isEither 0 = .ok (.iload_n 0, 1) := by decide +kernel
theorem dX7_isEither_1 : decode cX7_isEither 1 = .ok (.ifCond .eq 8, 3) := by decide +kernel
theorem dX7_isEither_4 : decode cX7_isEither 4 = .ok (.iload_n 0, 1) := by decide +kernel
theorem dX7_isEither_5 : decode cX7_isEither 5 = .ok (.iconst 1, 1) := by decide +kernel
theorem dX7_isEither_6 : decode cX7_isEither 6 = .ok (.if_icmp .ne 7, 3) := by decide +kernel
theorem dX7_isEither_9 : decode cX7_isEither 9 = .ok (.iconst 1, 1) := by decide +kernel
theorem dX7_isEither_10 : decode cX7_isEither 10 = .ok (.goto 4, 3) := by decide +kernel
theorem dX7_isEither_13 : decode cX7_isEither 13 = .ok (.iconst 0, 1) := by decide +kernel
theorem dX7_isEither_14 : decode cX7_isEither 14 = .ok (.ireturn, 1) := by decide +kernel
theorem dX7_isWithin_0 : decode cX7_isWithin 0 = .ok (.iload_n 0, 1) := by decide +kernel
theorem dX7_isWithin_1 : decode cX7_isWithin 1 = .ok (.iload_n 1, 1) := by decide +kernel
theorem dX7_isWithin_2 : decode cX7_isWithin 2 = .ok (.if_icmp .lt 12, 3) := by decide +kernel
theorem dX7_isWithin_5 : decode cX7_isWithin 5 = .ok (.iload_n 0, 1) := by decide +kernel
theorem dX7_isWithin_6 : decode cX7_isWithin 6 = .ok (.iload_n 2, 1) := by decide +kernel
theorem dX7_isWithin_7 : decode cX7_isWithin 7 = .ok (.if_icmp .gt 7, 3) := by decide +kernel
theorem dX7_isWithin_10 : decode cX7_isWithin 10 = .ok (.iconst 1, 1) := by decide +kernel
theorem dX7_isWithin_11 : decode cX7_isWithin 11 = .ok (.goto 4, 3) := by decide +kernel
theorem dX7_isWithin_14 : decode cX7_isWithin 14 = .ok (.iconst 0, 1) := by decide +kernel
theorem dX7_isWithin_15 : decode cX7_isWithin 15 = .ok (.ireturn, 1) := by decide +kernel
set_option maxRecDepth 20000 in
theorem ggX7_isOfKind_X7_isWithin : GoodIn wsX7_isOfKind wsX7_isWithin := goodIn_r _ [5] (by decide +kernel) (by decide +kernel)
set_option maxRecDepth 20000 in
theorem gX7_isOfKind_X7_isWithin : GoodIn wsX7_isOfKind (va_wsS RX7 59 yX7_isWithin wsX7_isWithin) := goodIn_app (goodIn_of _ (by decide +kernel)) ggX7_isOfKind_X7_isWithin
theorem dX7_isOfKind_0 : decode cX7_isOfKind 0 = .ok (.iload_n 0, 1) := by decide +kernel
theorem dX7_isOfKind_1 : decode cX7_isOfKind 1 = .ok (.istore_n 2, 1) := by decide +kernel
theorem dX7_isOfKind_2 : decode cX7_isOfKind 2 = .ok (.iconst 0, 1) := by decide +kernel
theorem dX7_isOfKind_3 : decode cX7_isOfKind 3 = .ok (.istore_n 3, 1) := by decide +kernel
theorem dX7_isOfKind_4 : decode cX7_isOfKind 4 = .ok (.iload_n 3, 1) := by decide +kernel
theorem dX7_isOfKind_5 : decode cX7_isOfKind 5 = .ok (.getstatic 307, 3) := by decide +kernel
theorem dX7_isOfKind_8 : decode cX7_isOfKind 8 = .ok (.arraylength, 1) := by decide +kernel
theorem dX7_isOfKind_9 : decode cX7_isOfKind 9 = .ok (.if_icmp .ge 38, 3) := by decide +kernel
theorem dX7_isOfKind_12 : decode cX7_isOfKind 12 = .ok (.iload_n 2, 1) := by decide +kernel
theorem dX7_isOfKind_13 : decode cX7_isOfKind 13 = .ok (.iload_n 1, 1) := by decide +kernel
theorem dX7_isOfKind_14 : decode cX7_isOfKind 14 = .ok (.if_icmp .eq 33, 3) := by decide +kernel
theorem dX7_isOfKind_17 : decode cX7_isOfKind 17 = .ok (.iload_n 2, 1) := by decide +kernel
theorem dX7_isOfKind_18 : decode cX7_isOfKind 18 = .ok (.iconst 0, 1) := by decide +kernel
theorem dX7_isOfKind_19 : decode cX7_isOfKind 19 = .ok (.getstatic 307, 3) := by decide +kernel
theorem dX7_isOfKind_22 : decode cX7_isOfKind 22 = .ok (.arraylength, 1) := by decide +kernel
theorem dX7_isOfKind_23 : decode cX7_isOfKind 23 = .ok (.iconst 1, 1) := by decide +kernel
theorem dX7_isOfKind_24 : decode cX7_isOfKind 24 = .ok (.isub, 1) := by decide +kernel
theorem dX7_isOfKind_25 : decode cX7_isOfKind 25 = .ok (.invokestatic 59, 3) := by decide +kernel
theorem dX7_isOfKind_28 : decode cX7_isOfKind 28 = .ok (.ifCond .eq 11, 3) := by decide +kernel
theorem dX7_isOfKind_31 : decode cX7_isOfKind 31 = .ok (.getstatic 307, 3) := by decide +kernel
theorem dX7_isOfKind_34 : decode cX7_isOfKind 34 = .ok (.iload_n 2, 1) := by decide +kernel
theorem dX7_isOfKind_35 : decode cX7_isOfKind 35 = .ok (.iaload, 1) := by decide +kernel
theorem dX7_isOfKind_36 : decode cX7_isOfKind 36 = .ok (.goto 4, 3) := by decide +kernel
theorem dX7_isOfKind_39 : decode cX7_isOfKind 39 = .ok (.iconst 0, 1) := by decide +kernel
theorem dX7_isOfKind_40 : decode cX7_isOfKind 40 = .ok (.istore_n 2, 1) := by decide +kernel
theorem dX7_isOfKind_41 : decode cX7_isOfKind 41 = .ok (.iinc 3 1, 3) := by decide +kernel
theorem dX7_isOfKind_44 : decode cX7_isOfKind 44 = .ok (.goto (-40), 3) := by decide +kernel
theorem dX7_isOfKind_47 : decode cX7_isOfKind 47 = .ok (.iload_n 2, 1) := by decide +kernel
theorem dX7_isOfKind_48 : decode cX7_isOfKind 48 = .ok (.iload_n 1, 1) := by decide +kernel
theorem dX7_isOfKind_49 : decode cX7_isOfKind 49 = .ok (.if_icmp .ne 7, 3) := by decide +kernel
theorem dX7_isOfKind_52 : decode cX7_isOfKind 52 = .ok (.iconst 1, 1) := by decide +kernel
theorem dX7_isOfKind_53 : decode cX7_isOfKind 53 = .ok (.goto 4, 3) := by decide +kernel
theorem dX7_isOfKind_56 : decode cX7_isOfKind 56 = .ok (.iconst 0, 1) := by decide +kernel
theorem dX7_isOfKind_57 : decode cX7_isOfKind 57 = .ok (.ireturn, 1) := by decide +kernel
set_option maxRecDepth 20000 in
theorem ggX7_firstBody_X7_isWithin : GoodIn wsX7_firstBody wsX7_isWithin := goodIn_r _ [7] (by decide +kernel) (by decide +kernel)
set_option maxRecDepth 20000 in
theorem gX7_firstBody_X7_isWithin : GoodIn wsX7_firstBody (va_wsS RX7 59 yX7_isWithin wsX7_isWithin) := goodIn_app (goodIn_of _ (by decide +kernel)) ggX7_firstBody_X7_isWithin
theorem dX7_firstBody_0 : decode cX7_firstBody 0 = .ok (.iload_n 0, 1) := by decide +kernel
theorem dX7_firstBody_1 : decode cX7_firstBody 1 = .ok (.iconst 1, 1) := by decide +kernel
theorem dX7_firstBody_2 : decode cX7_firstBody 2 = .ok (.iconst 5, 1) := by decide +kernel
theorem dX7_firstBody_3 : decode cX7_firstBody 3 = .ok (.invokestatic 59, 3) := by decide +kernel
theorem dX7_firstBody_6 : decode cX7_firstBody 6 = .ok (.ifCond .ne 6, 3) := by decide +kernel
theorem dX7_firstBody_9 : decode cX7_firstBody 9 = .ok (.ldc 227, 2) := by decide +kernel
theorem dX7_firstBody_11 : decode cX7_firstBody 11 = .ok (.ireturn, 1) := by decide +kernel
theorem dX7_firstBody_12 : decode cX7_firstBody 12 = .ok (.iload_n 1, 1) := by decide +kernel
theorem dX7_firstBody_13 : decode cX7_firstBody 13 = .ok (.ifCond .ne 11, 3) := by decide +kernel
theorem dX7_firstBody_16 : decode cX7_firstBody 16 = .ok (.getstatic 310, 3) := by decide +kernel
theorem dX7_firstBody_19 : decode cX7_firstBody 19 = .ok (.iload_n 0, 1) := by decide +kernel
theorem dX7_firstBody_20 : decode cX7_firstBody 20 = .ok (.iaload, 1) := by decide +kernel
theorem dX7_firstBody_21 : decode cX7_firstBody 21 = .ok (.goto 8, 3) := by decide +kernel
theorem dX7_firstBody_24 : decode cX7_firstBody 24 = .ok (.getstatic 313, 3) := by decide +kernel
theorem dX7_firstBody_27 : decode cX7_firstBody 27 = .ok (.iload_n 0, 1) := by decide +kernel
theorem dX7_firstBody_28 : decode cX7_firstBody 28 = .ok (.iaload, 1) := by decide +kernel
theorem dX7_firstBody_29 : decode cX7_firstBody 29 = .ok (.ireturn, 1) := by decide +kernel
set_option maxRecDepth 20000 in
theorem ggX7_answer_X6_add : GoodIn wsX7_answer wsX6_add := goodIn_r _ [5, 6, 7, 30, 31] (by decide +kernel) (by decide +kernel)
set_option maxRecDepth 20000 in
theorem gX7_answer_X6_add : GoodIn wsX7_answer (wsV RX7 316 RX6 yX6_add wsX6_add) := goodIn_app (goodIn_of _ (by decide +kernel)) ggX7_answer_X6_add
set_option maxRecDepth 20000 in
theorem ggX7_answer_X7_answer : GoodIn wsX7_answer wsX7_answer := goodIn_r _ [0, 1, 2, 3, 4, 5, 6, 7, 8, 9, 10, 11, 12, 13, 14, 15, 16, 17, 18, 19, 20, 21, 22, 23, 24, 25, 26, 27, 28, 29, 30, 31] (by decide +kernel) (by decide +kernel)
set_option maxRecDepth 20000 in
theorem gX7_answer_X7_answer : GoodIn wsX7_answer (va_wsS RX7 290 yX7_answer wsX7_answer) := goodIn_app (goodIn_of _ (by decide +kernel)) ggX7_answer_X7_answer
set_option maxRecDepth 20000 in
theorem ggX7_answer_X7_firstBody : GoodIn wsX7_answer wsX7_firstBody := goodIn_r _ [13, 14, 15, 16, 17, 18, 10, 19] (by decide +kernel) (by decide +kernel)
set_option maxRecDepth 20000 in
theorem gX7_answer_X7_firstBody : GoodIn wsX7_answer (va_wsS RX7 287 yX7_firstBody wsX7_firstBody) := goodIn_app (goodIn_of _ (by decide +kernel)) ggX7_answer_X7_firstBody
theorem dX7_answer_0 : decode cX7_answer 0 = .ok (.iload 4, 2) := by decide +kernel
theorem dX7_answer_2 : decode cX7_answer 2 = .ok (.bipush 8, 2) := by decide +kernel
theorem dX7_answer_4 : decode cX7_answer 4 = .ok (.if_icmp .le 5, 3) := by decide +kernel
theorem dX7_answer_7 : decode cX7_answer 7 = .ok (.iconst 0, 1) := by decide +kernel
theorem dX7_answer_8 : decode cX7_answer 8 = .ok (.ireturn, 1) := by decide +kernel
theorem dX7_answer_9 : decode cX7_answer 9 = .ok (.aload_n 1, 1) := by decide +kernel
theorem dX7_answer_10 : decode cX7_answer 10 = .ok (.iload_n 2, 1) := by decide +kernel
theorem dX7_answer_11 : decode cX7_answer 11 = .ok (.invokevirtual 316, 3) := by decide +kernel
theorem dX7_answer_14 : decode cX7_answer 14 = .ok (.iload 4, 2) := by decide +kernel
theorem dX7_answer_16 : decode cX7_answer 16 = .ok (.iconst 1, 1) := by decide +kernel
theorem dX7_answer_17 : decode cX7_answer 17 = .ok (.iadd, 1) := by decide +kernel
theorem dX7_answer_18 : decode cX7_answer 18 = .ok (.istore 5, 2) := by decide +kernel
theorem dX7_answer_20 : decode cX7_answer 20 = .ok (.aload_n 0, 1) := by decide +kernel
theorem dX7_answer_21 : decode cX7_answer 21 = .ok (.getfield 280, 3) := by decide +kernel
theorem dX7_answer_24 : decode cX7_answer 24 = .ok (.iload_n 3, 1) := by decide +kernel
theorem dX7_answer_25 : decode cX7_answer 25 = .ok (.iaload, 1) := by decide +kernel
theorem dX7_answer_26 : decode cX7_answer 26 = .ok (.istore 6, 2) := by decide +kernel
theorem dX7_answer_28 : decode cX7_answer 28 = .ok (.iload_n 2, 1) := by decide +kernel
theorem dX7_answer_29 : decode cX7_answer 29 = .ok (.tableswitch 221 10 24 #[75, 82, 108, 120, 134, 221, 221, 221, 221, 221, 147, 149, 167, 182, 208], 75) := by decide +kernel
theorem dX7_answer_104 : decode cX7_answer 104 = .ok (.aload_n 0, 1) := by decide +kernel
theorem dX7_answer_105 : decode cX7_answer 105 = .ok (.getfield 166, 3) := by decide +kernel
theorem dX7_answer_108 : decode cX7_answer 108 = .ok (.iload_n 3, 1) := by decide +kernel
theorem dX7_answer_109 : decode cX7_answer 109 = .ok (.iaload, 1) := by decide +kernel
theorem dX7_answer_110 : decode cX7_answer 110 = .ok (.ireturn, 1) := by decide +kernel
theorem dX7_answer_111 : decode cX7_answer 111 = .ok (.aload_n 0, 1) := by decide +kernel
theorem dX7_answer_112 : decode cX7_answer 112 = .ok (.aload_n 1, 1) := by decide +kernel
theorem dX7_answer_113 : decode cX7_answer 113 = .ok (.bipush 10, 2) := by decide +kernel
theorem dX7_answer_115 : decode cX7_answer 115 = .ok (.iload_n 3, 1) := by decide +kernel
theorem dX7_answer_116 : decode cX7_answer 116 = .ok (.iload 5, 2) := by decide +kernel
theorem dX7_answer_118 : decode cX7_answer 118 = .ok (.invokestatic 290, 3) := by decide +kernel
theorem dX7_answer_121 : decode cX7_answer 121 = .ok (.aload_n 0, 1) := by decide +kernel
theorem dX7_answer_122 : decode cX7_answer 122 = .ok (.aload_n 1, 1) := by decide +kernel
theorem dX7_answer_123 : decode cX7_answer 123 = .ok (.iload 6, 2) := by decide +kernel
theorem dX7_answer_125 : decode cX7_answer 125 = .ok (.iconst 1, 1) := by decide +kernel
theorem dX7_answer_126 : decode cX7_answer 126 = .ok (.invokestatic 287, 3) := by decide +kernel
theorem dX7_answer_129 : decode cX7_answer 129 = .ok (.iload_n 3, 1) := by decide +kernel
theorem dX7_answer_130 : decode cX7_answer 130 = .ok (.iload 5, 2) := by decide +kernel
theorem dX7_answer_132 : decode cX7_answer 132 = .ok (.invokestatic 290, 3) := by decide +kernel
theorem dX7_answer_135 : decode cX7_answer 135 = .ok (.iadd, 1) := by decide +kernel
theorem dX7_answer_136 : decode cX7_answer 136 = .ok (.ireturn, 1) := by decide +kernel
theorem dX7_answer_137 : decode cX7_answer 137 = .ok (.aload_n 0, 1) := by decide +kernel
theorem dX7_answer_138 : decode cX7_answer 138 = .ok (.aload_n 1, 1) := by decide +kernel
theorem dX7_answer_139 : decode cX7_answer 139 = .ok (.bipush 11, 2) := by decide +kernel
theorem dX7_answer_141 : decode cX7_answer 141 = .ok (.iload_n 3, 1) := by decide +kernel
theorem dX7_answer_142 : decode cX7_answer 142 = .ok (.iload 5, 2) := by decide +kernel
theorem dX7_answer_144 : decode cX7_answer 144 = .ok (.invokestatic 290, 3) := by decide +kernel
theorem dX7_answer_147 : decode cX7_answer 147 = .ok (.ineg, 1) := by decide +kernel
theorem dX7_answer_148 : decode cX7_answer 148 = .ok (.ireturn, 1) := by decide +kernel
theorem dX7_answer_149 : decode cX7_answer 149 = .ok (.aload_n 0, 1) := by decide +kernel
theorem dX7_answer_150 : decode cX7_answer 150 = .ok (.aload_n 1, 1) := by decide +kernel
theorem dX7_answer_151 : decode cX7_answer 151 = .ok (.bipush 10, 2) := by decide +kernel
theorem dX7_answer_153 : decode cX7_answer 153 = .ok (.iload_n 3, 1) := by decide +kernel
theorem dX7_answer_154 : decode cX7_answer 154 = .ok (.iload 5, 2) := by decide +kernel
theorem dX7_answer_156 : decode cX7_answer 156 = .ok (.invokestatic 290, 3) := by decide +kernel
theorem dX7_answer_159 : decode cX7_answer 159 = .ok (.bipush 100, 2) := by decide +kernel
theorem dX7_answer_161 : decode cX7_answer 161 = .ok (.isub, 1) := by decide +kernel
theorem dX7_answer_162 : decode cX7_answer 162 = .ok (.ireturn, 1) := by decide +kernel
theorem dX7_answer_163 : decode cX7_answer 163 = .ok (.iconst 2, 1) := by decide +kernel
theorem dX7_answer_164 : decode cX7_answer 164 = .ok (.aload_n 0, 1) := by decide +kernel
theorem dX7_answer_165 : decode cX7_answer 165 = .ok (.aload_n 1, 1) := by decide +kernel
theorem dX7_answer_166 : decode cX7_answer 166 = .ok (.bipush 13, 2) := by decide +kernel
theorem dX7_answer_168 : decode cX7_answer 168 = .ok (.iload_n 3, 1) := by decide +kernel
theorem dX7_answer_169 : decode cX7_answer 169 = .ok (.iload 5, 2) := by decide +kernel
theorem dX7_answer_171 : decode cX7_answer 171 = .ok (.invokestatic 290, 3) := by decide +kernel
theorem dX7_answer_174 : decode cX7_answer 174 = .ok (.imul, 1) := by decide +kernel
theorem dX7_answer_175 : decode cX7_answer 175 = .ok (.ireturn, 1) := by decide +kernel
theorem dX7_answer_176 : decode cX7_answer 176 = .ok (.iload_n 3, 1) := by decide +kernel
theorem dX7_answer_177 : decode cX7_answer 177 = .ok (.ireturn, 1) := by decide +kernel
theorem dX7_answer_178 : decode cX7_answer 178 = .ok (.aload_n 0, 1) := by decide +kernel
theorem dX7_answer_179 : decode cX7_answer 179 = .ok (.aload_n 1, 1) := by decide +kernel
theorem dX7_answer_180 : decode cX7_answer 180 = .ok (.bipush 20, 2) := by decide +kernel
theorem dX7_answer_182 : decode cX7_answer 182 = .ok (.iload_n 3, 1) := by decide +kernel
theorem dX7_answer_183 : decode cX7_answer 183 = .ok (.iload 5, 2) := by decide +kernel
theorem dX7_answer_185 : decode cX7_answer 185 = .ok (.invokestatic 290, 3) := by decide +kernel
theorem dX7_answer_188 : decode cX7_answer 188 = .ok (.aload_n 0, 1) := by decide +kernel
theorem dX7_answer_189 : decode cX7_answer 189 = .ok (.getfield 169, 3) := by decide +kernel
theorem dX7_answer_192 : decode cX7_answer 192 = .ok (.iload_n 3, 1) := by decide +kernel
theorem dX7_answer_193 : decode cX7_answer 193 = .ok (.iaload, 1) := by decide +kernel
theorem dX7_answer_194 : decode cX7_answer 194 = .ok (.iadd, 1) := by decide +kernel
theorem dX7_answer_195 : decode cX7_answer 195 = .ok (.ireturn, 1) := by decide +kernel
theorem dX7_answer_196 : decode cX7_answer 196 = .ok (.aload_n 0, 1) := by decide +kernel
theorem dX7_answer_197 : decode cX7_answer 197 = .ok (.aload_n 1, 1) := by decide +kernel
theorem dX7_answer_198 : decode cX7_answer 198 = .ok (.bipush 21, 2) := by decide +kernel
theorem dX7_answer_200 : decode cX7_answer 200 = .ok (.iload_n 3, 1) := by decide +kernel
theorem dX7_answer_201 : decode cX7_answer 201 = .ok (.iload 5, 2) := by decide +kernel
theorem dX7_answer_203 : decode cX7_answer 203 = .ok (.invokestatic 290, 3) := by decide +kernel
theorem dX7_answer_206 : decode cX7_answer 206 = .ok (.sipush 1000, 3) := by decide +kernel
theorem dX7_answer_209 : decode cX7_answer 209 = .ok (.isub, 1) := by decide +kernel
theorem dX7_answer_210 : decode cX7_answer 210 = .ok (.ireturn, 1) := by decide +kernel
theorem dX7_answer_211 : decode cX7_answer 211 = .ok (.aload_n 0, 1) := by decide +kernel
theorem dX7_answer_212 : decode cX7_answer 212 = .ok (.aload_n 1, 1) := by decide +kernel
theorem dX7_answer_213 : decode cX7_answer 213 = .ok (.bipush 20, 2) := by decide +kernel
theorem dX7_answer_215 : decode cX7_answer 215 = .ok (.iload_n 3, 1) := by decide +kernel
theorem dX7_answer_216 : decode cX7_answer 216 = .ok (.iload 5, 2) := by decide +kernel
theorem dX7_answer_218 : decode cX7_answer 218 = .ok (.invokestatic 290, 3) := by decide +kernel
theorem dX7_answer_221 : decode cX7_answer 221 = .ok (.aload_n 0, 1) := by decide +kernel
theorem dX7_answer_222 : decode cX7_answer 222 = .ok (.aload_n 1, 1) := by decide +kernel
theorem dX7_answer_223 : decode cX7_answer 223 = .ok (.iload 6, 2) := by decide +kernel
theorem dX7_answer_225 : decode cX7_answer 225 = .ok (.iconst 0, 1) := by decide +kernel
theorem dX7_answer_226 : decode cX7_answer 226 = .ok (.invokestatic 287, 3) := by decide +kernel
theorem dX7_answer_229 : decode cX7_answer 229 = .ok (.iload_n 3, 1) := by decide +kernel
theorem dX7_answer_230 : decode cX7_answer 230 = .ok (.iload 5, 2) := by decide +kernel
theorem dX7_answer_232 : decode cX7_answer 232 = .ok (.invokestatic 290, 3) := by decide +kernel
theorem dX7_answer_235 : decode cX7_answer 235 = .ok (.isub, 1) := by decide +kernel
theorem dX7_answer_236 : decode cX7_answer 236 = .ok (.ireturn, 1) := by decide +kernel
theorem dX7_answer_237 : decode cX7_answer 237 = .ok (.iconst 2, 1) := by decide +kernel
theorem dX7_answer_238 : decode cX7_answer 238 = .ok (.aload_n 0, 1) := by decide +kernel
theorem dX7_answer_239 : decode cX7_answer 239 = .ok (.aload_n 1, 1) := by decide +kernel
theorem dX7_answer_240 : decode cX7_answer 240 = .ok (.bipush 21, 2) := by decide +kernel
theorem dX7_answer_242 : decode cX7_answer 242 = .ok (.iload_n 3, 1) := by decide +kernel
theorem dX7_answer_243 : decode cX7_answer 243 = .ok (.iload 5, 2) := by decide +kernel
theorem dX7_answer_245 : decode cX7_answer 245 = .ok (.invokestatic 290, 3) := by decide +kernel
theorem dX7_answer_248 : decode cX7_answer 248 = .ok (.imul, 1) := by decide +kernel
theorem dX7_answer_249 : decode cX7_answer 249 = .ok (.ireturn, 1) := by decide +kernel
theorem dX7_answer_250 : decode cX7_answer 250 = .ok (.iconst 0, 1) := by decide +kernel
theorem dX7_answer_251 : decode cX7_answer 251 = .ok (.ireturn, 1) := by decide +kernel
theorem dX7_power_0 : decode cX7_power 0 = .ok (.lconst 1, 1) := by decide +kernel
theorem dX7_power_1 : decode cX7_power 1 = .ok (.lstore_n 2, 1) := by decide +kernel
theorem dX7_power_2 : decode cX7_power 2 = .ok (.iconst 0, 1) := by decide +kernel
theorem dX7_power_3 : decode cX7_power 3 = .ok (.istore 4, 2) := by decide +kernel
theorem dX7_power_5 : decode cX7_power 5 = .ok (.iload 4, 2) := by decide +kernel
theorem dX7_power_7 : decode cX7_power 7 = .ok (.iload_n 1, 1) := by decide +kernel
theorem dX7_power_8 : decode cX7_power 8 = .ok (.if_icmp .ge 14, 3) := by decide +kernel
theorem dX7_power_11 : decode cX7_power 11 = .ok (.lload_n 2, 1) := by decide +kernel
theorem dX7_power_12 : decode cX7_power 12 = .ok (.iload_n 0, 1) := by decide +kernel
theorem dX7_power_13 : decode cX7_power 13 = .ok (.i2l, 1) := by decide +kernel
theorem dX7_power_14 : decode cX7_power 14 = .ok (.lmul, 1) := by decide +kernel
theorem dX7_power_15 : decode cX7_power 15 = .ok (.lstore_n 2, 1) := by decide +kernel
theorem dX7_power_16 : decode cX7_power 16 = .ok (.iinc 4 1, 3) := by decide +kernel
theorem dX7_power_19 : decode cX7_power 19 = .ok (.goto (-14), 3) := by decide +kernel
theorem dX7_power_22 : decode cX7_power 22 = .ok (.lload_n 2, 1) := by decide +kernel
theorem dX7_power_23 : decode cX7_power 23 = .ok (.lreturn, 1) := by decide +kernel
theorem dX7_commonDivisor_0 : decode cX7_commonDivisor 0 = .ok (.lload_n 0, 1) := by decide +kernel
theorem dX7_commonDivisor_1 : decode cX7_commonDivisor 1 = .ok (.lstore 4, 2) := by decide +kernel
theorem dX7_commonDivisor_3 : decode cX7_commonDivisor 3 = .ok (.lload_n 2, 1) := by decide +kernel
theorem dX7_commonDivisor_4 : decode cX7_commonDivisor 4 = .ok (.lstore 6, 2) := by decide +kernel
theorem dX7_commonDivisor_6 : decode cX7_commonDivisor 6 = .ok (.iconst 0, 1) := by decide +kernel
theorem dX7_commonDivisor_7 : decode cX7_commonDivisor 7 = .ok (.istore 8, 2) := by decide +kernel
theorem dX7_commonDivisor_9 : decode cX7_commonDivisor 9 = .ok (.iload 8, 2) := by decide +kernel
theorem dX7_commonDivisor_11 : decode cX7_commonDivisor 11 = .ok (.sipush 200, 3) := by decide +kernel
theorem dX7_commonDivisor_14 : decode cX7_commonDivisor 14 = .ok (.if_icmp .ge 31, 3) := by decide +kernel
theorem dX7_commonDivisor_17 : decode cX7_commonDivisor 17 = .ok (.lload 6, 2) := by decide +kernel
theorem dX7_commonDivisor_19 : decode cX7_commonDivisor 19 = .ok (.lconst 0, 1) := by decide +kernel
theorem dX7_commonDivisor_20 : decode cX7_commonDivisor 20 = .ok (.lcmp, 1) := by decide +kernel
theorem dX7_commonDivisor_21 : decode cX7_commonDivisor 21 = .ok (.ifCond .eq 24, 3) := by decide +kernel
theorem dX7_commonDivisor_24 : decode cX7_commonDivisor 24 = .ok (.lload 4, 2) := by decide +kernel
theorem dX7_commonDivisor_26 : decode cX7_commonDivisor 26 = .ok (.lload 6, 2) := by decide +kernel
theorem dX7_commonDivisor_28 : decode cX7_commonDivisor 28 = .ok (.lrem, 1) := by decide +kernel
theorem dX7_commonDivisor_29 : decode cX7_commonDivisor 29 = .ok (.lstore 9, 2) := by decide +kernel
theorem dX7_commonDivisor_31 : decode cX7_commonDivisor 31 = .ok (.lload 6, 2) := by decide +kernel
theorem dX7_commonDivisor_33 : decode cX7_commonDivisor 33 = .ok (.lstore 4, 2) := by decide +kernel
theorem dX7_commonDivisor_35 : decode cX7_commonDivisor 35 = .ok (.lload 9, 2) := by decide +kernel
theorem dX7_commonDivisor_37 : decode cX7_commonDivisor 37 = .ok (.lstore 6, 2) := by decide +kernel
theorem dX7_commonDivisor_39 : decode cX7_commonDivisor 39 = .ok (.iinc 8 1, 3) := by decide +kernel
theorem dX7_commonDivisor_42 : decode cX7_commonDivisor 42 = .ok (.goto (-33), 3) := by decide +kernel
theorem dX7_commonDivisor_45 : decode cX7_commonDivisor 45 = .ok (.lload 4, 2) := by decide +kernel
theorem dX7_commonDivisor_47 : decode cX7_commonDivisor 47 = .ok (.lreturn, 1) := by decide +kernel
