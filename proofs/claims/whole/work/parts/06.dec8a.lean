theorem dX8_init_0 : decode cX8_init 0 = .ok (.aload_n 0, 1) := by decide +kernel
theorem dX8_init_1 : decode cX8_init 1 = .ok (.invokespecial 1, 3) := by decide +kernel
theorem dX8_init_4 : decode cX8_init 4 = .ok (.aload_n 0, 1) := by decide +kernel
theorem dX8_init_5 : decode cX8_init 5 = .ok (.sipush 1595, 3) := by decide +kernel
theorem dX8_init_8 : decode cX8_init 8 = .ok (.newarray .int, 2) := by decide +kernel
theorem dX8_init_10 : decode cX8_init 10 = .ok (.putfield 7, 3) := by decide +kernel
theorem dX8_init_13 : decode cX8_init 13 = .ok (.aload_n 0, 1) := by decide +kernel
theorem dX8_init_14 : decode cX8_init 14 = .ok (.sipush 130, 3) := by decide +kernel
theorem dX8_init_17 : decode cX8_init 17 = .ok (.newarray .int, 2) := by decide +kernel
theorem dX8_init_19 : decode cX8_init 19 = .ok (.putfield 13, 3) := by decide +kernel
theorem dX8_init_22 : decode cX8_init 22 = .ok (.aload_n 0, 1) := by decide +kernel
theorem dX8_init_23 : decode cX8_init 23 = .ok (.bipush 8, 2) := by decide +kernel
theorem dX8_init_25 : decode cX8_init 25 = .ok (.newarray .int, 2) := by decide +kernel
theorem dX8_init_27 : decode cX8_init 27 = .ok (.putfield 16, 3) := by decide +kernel
theorem dX8_init_30 : decode cX8_init 30 = .ok (.aload_n 0, 1) := by decide +kernel
theorem dX8_init_31 : decode cX8_init 31 = .ok (.bipush 8, 2) := by decide +kernel
theorem dX8_init_33 : decode cX8_init 33 = .ok (.newarray .int, 2) := by decide +kernel
theorem dX8_init_35 : decode cX8_init 35 = .ok (.putfield 19, 3) := by decide +kernel
theorem dX8_init_38 : decode cX8_init 38 = .ok (.aload_n 0, 1) := by decide +kernel
theorem dX8_init_39 : decode cX8_init 39 = .ok (.sipush 320, 3) := by decide +kernel
theorem dX8_init_42 : decode cX8_init 42 = .ok (.newarray .int, 2) := by decide +kernel
theorem dX8_init_44 : decode cX8_init 44 = .ok (.putfield 22, 3) := by decide +kernel
theorem dX8_init_47 : decode cX8_init 47 = .ok (.aload_n 0, 1) := by decide +kernel
theorem dX8_init_48 : decode cX8_init 48 = .ok (.bipush 40, 2) := by decide +kernel
theorem dX8_init_50 : decode cX8_init 50 = .ok (.newarray .int, 2) := by decide +kernel
theorem dX8_init_52 : decode cX8_init 52 = .ok (.putfield 25, 3) := by decide +kernel
theorem dX8_init_55 : decode cX8_init 55 = .ok (.aload_n 0, 1) := by decide +kernel
theorem dX8_init_56 : decode cX8_init 56 = .ok (.bipush 16, 2) := by decide +kernel
theorem dX8_init_58 : decode cX8_init 58 = .ok (.newarray .int, 2) := by decide +kernel
theorem dX8_init_60 : decode cX8_init 60 = .ok (.putfield 28, 3) := by decide +kernel
theorem dX8_init_63 : decode cX8_init 63 = .ok (.iconst 0, 1) := by decide +kernel
theorem dX8_init_64 : decode cX8_init 64 = .ok (.istore_n 1, 1) := by decide +kernel
theorem dX8_init_65 : decode cX8_init 65 = .ok (.iload_n 1, 1) := by decide +kernel
theorem dX8_init_66 : decode cX8_init 66 = .ok (.bipush 8, 2) := by decide +kernel
theorem dX8_init_68 : decode cX8_init 68 = .ok (.if_icmp .ge 16, 3) := by decide +kernel
theorem dX8_init_71 : decode cX8_init 71 = .ok (.aload_n 0, 1) := by decide +kernel
theorem dX8_init_72 : decode cX8_init 72 = .ok (.getfield 16, 3) := by decide +kernel
theorem dX8_init_75 : decode cX8_init 75 = .ok (.iload_n 1, 1) := by decide +kernel
theorem dX8_init_76 : decode cX8_init 76 = .ok (.iconst (-1), 1) := by decide +kernel
theorem dX8_init_77 : decode cX8_init 77 = .ok (.iastore, 1) := by decide +kernel
theorem dX8_init_78 : decode cX8_init 78 = .ok (.iinc 1 1, 3) := by decide +kernel
theorem dX8_init_81 : decode cX8_init 81 = .ok (.goto (-16), 3) := by decide +kernel
theorem dX8_init_84 : decode cX8_init 84 = .ok (.return_, 1) := by decide +kernel
theorem dX8_in_0 : decode cX8_in 0 = .ok (.lload_n 0, 1) := by decide +kernel
theorem dX8_in_1 : decode cX8_in 1 = .ok (.lload_n 2, 1) := by decide +kernel
theorem dX8_in_2 : decode cX8_in 2 = .ok (.lcmp, 1) := by decide +kernel
theorem dX8_in_3 : decode cX8_in 3 = .ok (.ifCond .lt 14, 3) := by decide +kernel
theorem dX8_in_6 : decode cX8_in 6 = .ok (.lload_n 0, 1) := by decide +kernel
theorem dX8_in_7 : decode cX8_in 7 = .ok (.lload 4, 2) := by decide +kernel
theorem dX8_in_9 : decode cX8_in 9 = .ok (.lcmp, 1) := by decide +kernel
theorem dX8_in_10 : decode cX8_in 10 = .ok (.ifCond .gt 7, 3) := by decide +kernel
theorem dX8_in_13 : decode cX8_in 13 = .ok (.iconst 1, 1) := by decide +kernel
theorem dX8_in_14 : decode cX8_in 14 = .ok (.goto 4, 3) := by decide +kernel
theorem dX8_in_17 : decode cX8_in 17 = .ok (.iconst 0, 1) := by decide +kernel
theorem dX8_in_18 : decode cX8_in 18 = .ok (.ireturn, 1) := by decide +kernel
theorem dX8_has_0 : decode cX8_has 0 = .ok (.iload_n 0, 1) := by decide +kernel
theorem dX8_has_1 : decode cX8_has 1 = .ok (.iload_n 1, 1) := by decide +kernel
theorem dX8_has_2 : decode cX8_has 2 = .ok (.ishr, 1) := by decide +kernel
theorem dX8_has_3 : decode cX8_has 3 = .ok (.iconst 1, 1) := by decide +kernel
theorem dX8_has_4 : decode cX8_has 4 = .ok (.iand, 1) := by decide +kernel
theorem dX8_has_5 : decode cX8_has 5 = .ok (.iconst 1, 1) := by decide +kernel
theorem dX8_has_6 : decode cX8_has 6 = .ok (.if_icmp .ne 7, 3) := by decide +kernel
theorem dX8_has_9 : decode cX8_has 9 = .ok (.iconst 1, 1) := by decide +kernel
theorem dX8_has_10 : decode cX8_has 10 = .ok (.goto 4, 3) := by decide +kernel
theorem dX8_has_13 : decode cX8_has 13 = .ok (.iconst 0, 1) := by decide +kernel
theorem dX8_has_14 : decode cX8_has 14 = .ok (.ireturn, 1) := by decide +kernel
theorem dX8_ones_0 : decode cX8_ones 0 = .ok (.iconst 0, 1) := by decide +kernel
theorem dX8_ones_1 : decode cX8_ones 1 = .ok (.istore_n 1, 1) := by decide +kernel
theorem dX8_ones_2 : decode cX8_ones 2 = .ok (.iconst 0, 1) := by decide +kernel
theorem dX8_ones_3 : decode cX8_ones 3 = .ok (.istore_n 2, 1) := by decide +kernel
theorem dX8_ones_4 : decode cX8_ones 4 = .ok (.iload_n 2, 1) := by decide +kernel
theorem dX8_ones_5 : decode cX8_ones 5 = .ok (.bipush 10, 2) := by decide +kernel
theorem dX8_ones_7 : decode cX8_ones 7 = .ok (.if_icmp .ge 17, 3) := by decide +kernel
theorem dX8_ones_10 : decode cX8_ones 10 = .ok (.iload_n 1, 1) := by decide +kernel
theorem dX8_ones_11 : decode cX8_ones 11 = .ok (.iload_n 0, 1) := by decide +kernel
theorem dX8_ones_12 : decode cX8_ones 12 = .ok (.iload_n 2, 1) := by decide +kernel
theorem dX8_ones_13 : decode cX8_ones 13 = .ok (.ishr, 1) := by decide +kernel
theorem dX8_ones_14 : decode cX8_ones 14 = .ok (.iconst 1, 1) := by decide +kernel
theorem dX8_ones_15 : decode cX8_ones 15 = .ok (.iand, 1) := by decide +kernel
theorem dX8_ones_16 : decode cX8_ones 16 = .ok (.iadd, 1) := by decide +kernel
theorem dX8_ones_17 : decode cX8_ones 17 = .ok (.istore_n 1, 1) := by decide +kernel
theorem dX8_ones_18 : decode cX8_ones 18 = .ok (.iinc 2 1, 3) := by decide +kernel
theorem dX8_ones_21 : decode cX8_ones 21 = .ok (.goto (-17), 3) := by decide +kernel
theorem dX8_ones_24 : decode cX8_ones 24 = .ok (.iload_n 1, 1) := by decide +kernel
theorem dX8_ones_25 : decode cX8_ones 25 = .ok (.ireturn, 1) := by decide +kernel
theorem dX8_copyOf_0 : decode cX8_copyOf 0 = .ok (.iconst 0, 1) := by decide +kernel
theorem dX8_copyOf_1 : decode cX8_copyOf 1 = .ok (.istore_n 3, 1) := by decide +kernel
theorem dX8_copyOf_2 : decode cX8_copyOf 2 = .ok (.iload_n 3, 1) := by decide +kernel
theorem dX8_copyOf_3 : decode cX8_copyOf 3 = .ok (.bipush 55, 2) := by decide +kernel
theorem dX8_copyOf_5 : decode cX8_copyOf 5 = .ok (.if_icmp .ge 25, 3) := by decide +kernel
theorem dX8_copyOf_8 : decode cX8_copyOf 8 = .ok (.aload_n 0, 1) := by decide +kernel
theorem dX8_copyOf_9 : decode cX8_copyOf 9 = .ok (.getfield 7, 3) := by decide +kernel
theorem dX8_copyOf_12 : decode cX8_copyOf 12 = .ok (.iload_n 2, 1) := by decide +kernel
theorem dX8_copyOf_13 : decode cX8_copyOf 13 = .ok (.iload_n 3, 1) := by decide +kernel
theorem dX8_copyOf_14 : decode cX8_copyOf 14 = .ok (.iadd, 1) := by decide +kernel
theorem dX8_copyOf_15 : decode cX8_copyOf 15 = .ok (.aload_n 0, 1) := by decide +kernel
theorem dX8_copyOf_16 : decode cX8_copyOf 16 = .ok (.getfield 7, 3) := by decide +kernel
theorem dX8_copyOf_19 : decode cX8_copyOf 19 = .ok (.iload_n 1, 1) := by decide +kernel
theorem dX8_copyOf_20 : decode cX8_copyOf 20 = .ok (.iload_n 3, 1) := by decide +kernel
theorem dX8_copyOf_21 : decode cX8_copyOf 21 = .ok (.iadd, 1) := by decide +kernel
theorem dX8_copyOf_22 : decode cX8_copyOf 22 = .ok (.iaload, 1) := by decide +kernel
theorem dX8_copyOf_23 : decode cX8_copyOf 23 = .ok (.iastore, 1) := by decide +kernel
theorem dX8_copyOf_24 : decode cX8_copyOf 24 = .ok (.iinc 3 1, 3) := by decide +kernel
theorem dX8_copyOf_27 : decode cX8_copyOf 27 = .ok (.goto (-25), 3) := by decide +kernel
theorem dX8_copyOf_30 : decode cX8_copyOf 30 = .ok (.return_, 1) := by decide +kernel
set_option maxRecDepth 20000 in
theorem ggX8_isWindow_X8_in : GoodIn wsX8_isWindow wsX8_in := goodIn_r _ [5] (by decide +kernel) (by decide +kernel)
set_option maxRecDepth 20000 in
theorem gX8_isWindow_X8_in : GoodIn wsX8_isWindow (va_wsS RX8 31 yX8_in wsX8_in) := goodIn_app (goodIn_of _ (by decide +kernel)) ggX8_isWindow_X8_in
theorem dX8_isWindow_0 : decode cX8_isWindow 0 = .ok (.iload_n 1, 1) := by decide +kernel
theorem dX8_isWindow_1 : decode cX8_isWindow 1 = .ok (.i2l, 1) := by decide +kernel
theorem dX8_isWindow_2 : decode cX8_isWindow 2 = .ok (.lconst 0, 1) := by decide +kernel
theorem dX8_isWindow_3 : decode cX8_isWindow 3 = .ok (.aload_n 0, 1) := by decide +kernel
theorem dX8_isWindow_4 : decode cX8_isWindow 4 = .ok (.getfield 7, 3) := by decide +kernel
theorem dX8_isWindow_7 : decode cX8_isWindow 7 = .ok (.iconst 0, 1) := by decide +kernel
theorem dX8_isWindow_8 : decode cX8_isWindow 8 = .ok (.iaload, 1) := by decide +kernel
theorem dX8_isWindow_9 : decode cX8_isWindow 9 = .ok (.iconst 1, 1) := by decide +kernel
theorem dX8_isWindow_10 : decode cX8_isWindow 10 = .ok (.isub, 1) := by decide +kernel
theorem dX8_isWindow_11 : decode cX8_isWindow 11 = .ok (.i2l, 1) := by decide +kernel
theorem dX8_isWindow_12 : decode cX8_isWindow 12 = .ok (.invokestatic 31, 3) := by decide +kernel
theorem dX8_isWindow_15 : decode cX8_isWindow 15 = .ok (.ireturn, 1) := by decide +kernel
theorem dX8_isStreet_0 : decode cX8_isStreet 0 = .ok (.aload_n 0, 1) := by decide +kernel
theorem dX8_isStreet_1 : decode cX8_isStreet 1 = .ok (.getfield 7, 3) := by decide +kernel
theorem dX8_isStreet_4 : decode cX8_isStreet 4 = .ok (.iconst 0, 1) := by decide +kernel
theorem dX8_isStreet_5 : decode cX8_isStreet 5 = .ok (.iaload, 1) := by decide +kernel
theorem dX8_isStreet_6 : decode cX8_isStreet 6 = .ok (.ifCond .le 7, 3) := by decide +kernel
theorem dX8_isStreet_9 : decode cX8_isStreet 9 = .ok (.iconst 1, 1) := by decide +kernel
theorem dX8_isStreet_10 : decode cX8_isStreet 10 = .ok (.goto 4, 3) := by decide +kernel
theorem dX8_isStreet_13 : decode cX8_isStreet 13 = .ok (.iconst 0, 1) := by decide +kernel
theorem dX8_isStreet_14 : decode cX8_isStreet 14 = .ok (.ireturn, 1) := by decide +kernel
set_option maxRecDepth 20000 in
theorem ggX8_isRow_X8_in : GoodIn wsX8_isRow wsX8_in := goodIn_r _ [5] (by decide +kernel) (by decide +kernel)
set_option maxRecDepth 20000 in
theorem gX8_isRow_X8_in : GoodIn wsX8_isRow (va_wsS RX8 31 yX8_in wsX8_in) := goodIn_app (goodIn_of _ (by decide +kernel)) ggX8_isRow_X8_in
theorem dX8_isRow_0 : decode cX8_isRow 0 = .ok (.iload_n 0, 1) := by decide +kernel
theorem dX8_isRow_1 : decode cX8_isRow 1 = .ok (.i2l, 1) := by decide +kernel
theorem dX8_isRow_2 : decode cX8_isRow 2 = .ok (.lconst 0, 1) := by decide +kernel
theorem dX8_isRow_3 : decode cX8_isRow 3 = .ok (.ldc2_w 35, 3) := by decide +kernel
theorem dX8_isRow_6 : decode cX8_isRow 6 = .ok (.invokestatic 31, 3) := by decide +kernel
theorem dX8_isRow_9 : decode cX8_isRow 9 = .ok (.ireturn, 1) := by decide +kernel
theorem dX8_finds_0 : decode cX8_finds 0 = .ok (.aload_n 0, 1) := by decide +kernel
theorem dX8_finds_1 : decode cX8_finds 1 = .ok (.iload_n 1, 1) := by decide +kernel
theorem dX8_finds_2 : decode cX8_finds 2 = .ok (.putfield 37, 3) := by decide +kernel
theorem dX8_finds_5 : decode cX8_finds 5 = .ok (.ldc 41, 2) := by decide +kernel
theorem dX8_finds_7 : decode cX8_finds 7 = .ok (.iload_n 1, 1) := by decide +kernel
theorem dX8_finds_8 : decode cX8_finds 8 = .ok (.isub, 1) := by decide +kernel
theorem dX8_finds_9 : decode cX8_finds 9 = .ok (.ireturn, 1) := by decide +kernel
theorem dX8_against_0 : decode cX8_against 0 = .ok (.aload_n 0, 1) := by decide +kernel
theorem dX8_against_1 : decode cX8_against 1 = .ok (.getfield 16, 3) := by decide +kernel
theorem dX8_against_4 : decode cX8_against 4 = .ok (.iload_n 1, 1) := by decide +kernel
theorem dX8_against_5 : decode cX8_against 5 = .ok (.iaload, 1) := by decide +kernel
theorem dX8_against_6 : decode cX8_against 6 = .ok (.ifCond .ge 7, 3) := by decide +kernel
theorem dX8_against_9 : decode cX8_against 9 = .ok (.iconst 1, 1) := by decide +kernel
theorem dX8_against_10 : decode cX8_against 10 = .ok (.goto 32, 3) := by decide +kernel
theorem dX8_against_13 : decode cX8_against 13 = .ok (.iload_n 2, 1) := by decide +kernel
theorem dX8_against_14 : decode cX8_against 14 = .ok (.ifCond .lt 23, 3) := by decide +kernel
theorem dX8_against_17 : decode cX8_against 17 = .ok (.iload_n 3, 1) := by decide +kernel
theorem dX8_against_18 : decode cX8_against 18 = .ok (.ifCond .lt 19, 3) := by decide +kernel
theorem dX8_against_21 : decode cX8_against 21 = .ok (.iload_n 2, 1) := by decide +kernel
theorem dX8_against_22 : decode cX8_against 22 = .ok (.i2l, 1) := by decide +kernel
theorem dX8_against_23 : decode cX8_against 23 = .ok (.iload_n 3, 1) := by decide +kernel
theorem dX8_against_24 : decode cX8_against 24 = .ok (.i2l, 1) := by decide +kernel
theorem dX8_against_25 : decode cX8_against 25 = .ok (.ladd, 1) := by decide +kernel
theorem dX8_against_26 : decode cX8_against 26 = .ok (.aload_n 0, 1) := by decide +kernel
theorem dX8_against_27 : decode cX8_against 27 = .ok (.getfield 16, 3) := by decide +kernel
theorem dX8_against_30 : decode cX8_against 30 = .ok (.iload_n 1, 1) := by decide +kernel
theorem dX8_against_31 : decode cX8_against 31 = .ok (.iaload, 1) := by decide +kernel
theorem dX8_against_32 : decode cX8_against 32 = .ok (.i2l, 1) := by decide +kernel
theorem dX8_against_33 : decode cX8_against 33 = .ok (.lcmp, 1) := by decide +kernel
theorem dX8_against_34 : decode cX8_against 34 = .ok (.ifCond .le 7, 3) := by decide +kernel
theorem dX8_against_37 : decode cX8_against 37 = .ok (.iconst 2, 1) := by decide +kernel
theorem dX8_against_38 : decode cX8_against 38 = .ok (.goto 4, 3) := by decide +kernel
theorem dX8_against_41 : decode cX8_against 41 = .ok (.iconst 0, 1) := by decide +kernel
theorem dX8_against_42 : decode cX8_against 42 = .ok (.ireturn, 1) := by decide +kernel
set_option maxRecDepth 20000 in
theorem ggX8_row_X8_isRow : GoodIn wsX8_row wsX8_isRow := goodIn_r _ [10, 11, 12, 13, 9, 14] (by decide +kernel) (by decide +kernel)
set_option maxRecDepth 20000 in
theorem gX8_row_X8_isRow : GoodIn wsX8_row (va_wsS RX8 42 yX8_isRow wsX8_isRow) := goodIn_app (goodIn_of _ (by decide +kernel)) ggX8_row_X8_isRow
set_option maxRecDepth 20000 in
theorem ggX8_row_X8_in : GoodIn wsX8_row wsX8_in := goodIn_r _ [14] (by decide +kernel) (by decide +kernel)
set_option maxRecDepth 20000 in
theorem gX8_row_X8_in : GoodIn wsX8_row (va_wsS RX8 31 yX8_in wsX8_in) := goodIn_app (goodIn_of _ (by decide +kernel)) ggX8_row_X8_in
set_option maxRecDepth 20000 in
theorem ggX8_row_X8_finds : GoodIn wsX8_row wsX8_finds := goodIn_r _ [18, 3, 19, 20, 21, 22, 23, 24, 25, 26, 27, 28, 29, 30, 31, 32, 33, 34] (by decide +kernel) (by decide +kernel)
set_option maxRecDepth 20000 in
theorem gX8_row_X8_finds : GoodIn wsX8_row (wsV RX8 49 RX8 yX8_finds wsX8_finds) := goodIn_app (goodIn_of _ (by decide +kernel)) ggX8_row_X8_finds
theorem dX8_row_0 : decode cX8_row 0 = .ok (.iload_n 1, 1) := by decide +kernel
theorem dX8_row_1 : decode cX8_row 1 = .ok (.invokestatic 42, 3) := by decide +kernel
theorem dX8_row_4 : decode cX8_row 4 = .ok (.ifCond .eq 21, 3) := by decide +kernel
theorem dX8_row_7 : decode cX8_row 7 = .ok (.iload_n 2, 1) := by decide +kernel
theorem dX8_row_8 : decode cX8_row 8 = .ok (.i2l, 1) := by decide +kernel
theorem dX8_row_9 : decode cX8_row 9 = .ok (.lconst 0, 1) := by decide +kernel
theorem dX8_row_10 : decode cX8_row 10 = .ok (.ldc2_w 46, 3) := by decide +kernel
theorem dX8_row_13 : decode cX8_row 13 = .ok (.invokestatic 31, 3) := by decide +kernel
theorem dX8_row_16 : decode cX8_row 16 = .ok (.ifCond .eq 9, 3) := by decide +kernel
theorem dX8_row_19 : decode cX8_row 19 = .ok (.iload_n 3, 1) := by decide +kernel
theorem dX8_row_20 : decode cX8_row 20 = .ok (.bipush 40, 2) := by decide +kernel
theorem dX8_row_22 : decode cX8_row 22 = .ok (.if_icmp .le 6, 3) := by decide +kernel
theorem dX8_row_25 : decode cX8_row 25 = .ok (.ldc 48, 2) := by decide +kernel
theorem dX8_row_27 : decode cX8_row 27 = .ok (.ireturn, 1) := by decide +kernel
theorem dX8_row_28 : decode cX8_row 28 = .ok (.iload_n 3, 1) := by decide +kernel
theorem dX8_row_29 : decode cX8_row 29 = .ok (.ifCond .ge 9, 3) := by decide +kernel
theorem dX8_row_32 : decode cX8_row 32 = .ok (.aload_n 0, 1) := by decide +kernel
theorem dX8_row_33 : decode cX8_row 33 = .ok (.iconst 4, 1) := by decide +kernel
theorem dX8_row_34 : decode cX8_row 34 = .ok (.invokevirtual 49, 3) := by decide +kernel
theorem dX8_row_37 : decode cX8_row 37 = .ok (.ireturn, 1) := by decide +kernel
theorem dX8_row_38 : decode cX8_row 38 = .ok (.aload_n 0, 1) := by decide +kernel
theorem dX8_row_39 : decode cX8_row 39 = .ok (.iconst 0, 1) := by decide +kernel
theorem dX8_row_40 : decode cX8_row 40 = .ok (.putfield 37, 3) := by decide +kernel
theorem dX8_row_43 : decode cX8_row 43 = .ok (.aload_n 0, 1) := by decide +kernel
theorem dX8_row_44 : decode cX8_row 44 = .ok (.getfield 16, 3) := by decide +kernel
theorem dX8_row_47 : decode cX8_row 47 = .ok (.iload_n 1, 1) := by decide +kernel
theorem dX8_row_48 : decode cX8_row 48 = .ok (.iload_n 3, 1) := by decide +kernel
theorem dX8_row_49 : decode cX8_row 49 = .ok (.iastore, 1) := by decide +kernel
theorem dX8_row_50 : decode cX8_row 50 = .ok (.aload_n 0, 1) := by decide +kernel
theorem dX8_row_51 : decode cX8_row 51 = .ok (.getfield 19, 3) := by decide +kernel
theorem dX8_row_54 : decode cX8_row 54 = .ok (.iload_n 1, 1) := by decide +kernel
theorem dX8_row_55 : decode cX8_row 55 = .ok (.iload_n 2, 1) := by decide +kernel
theorem dX8_row_56 : decode cX8_row 56 = .ok (.iastore, 1) := by decide +kernel
theorem dX8_row_57 : decode cX8_row 57 = .ok (.iconst 0, 1) := by decide +kernel
theorem dX8_row_58 : decode cX8_row 58 = .ok (.istore 4, 2) := by decide +kernel
theorem dX8_row_60 : decode cX8_row 60 = .ok (.iload 4, 2) := by decide +kernel
theorem dX8_row_62 : decode cX8_row 62 = .ok (.bipush 40, 2) := by decide +kernel
theorem dX8_row_64 : decode cX8_row 64 = .ok (.if_icmp .ge 22, 3) := by decide +kernel
theorem dX8_row_67 : decode cX8_row 67 = .ok (.aload_n 0, 1) := by decide +kernel
theorem dX8_row_68 : decode cX8_row 68 = .ok (.getfield 22, 3) := by decide +kernel
theorem dX8_row_71 : decode cX8_row 71 = .ok (.bipush 40, 2) := by decide +kernel
theorem dX8_row_73 : decode cX8_row 73 = .ok (.iload_n 1, 1) := by decide +kernel
theorem dX8_row_74 : decode cX8_row 74 = .ok (.imul, 1) := by decide +kernel
theorem dX8_row_75 : decode cX8_row 75 = .ok (.iload 4, 2) := by decide +kernel
theorem dX8_row_77 : decode cX8_row 77 = .ok (.iadd, 1) := by decide +kernel
theorem dX8_row_78 : decode cX8_row 78 = .ok (.iconst 0, 1) := by decide +kernel
theorem dX8_row_79 : decode cX8_row 79 = .ok (.iastore, 1) := by decide +kernel
theorem dX8_row_80 : decode cX8_row 80 = .ok (.iinc 4 1, 3) := by decide +kernel
theorem dX8_row_83 : decode cX8_row 83 = .ok (.goto (-23), 3) := by decide +kernel
theorem dX8_row_86 : decode cX8_row 86 = .ok (.iload_n 3, 1) := by decide +kernel
theorem dX8_row_87 : decode cX8_row 87 = .ok (.ireturn, 1) := by decide +kernel
set_option maxRecDepth 20000 in
theorem ggX8_set_X8_isRow : GoodIn wsX8_set wsX8_isRow := goodIn_r _ [8, 9, 10, 11, 7, 12] (by decide +kernel) (by decide +kernel)
set_option maxRecDepth 20000 in
theorem gX8_set_X8_isRow : GoodIn wsX8_set (va_wsS RX8 42 yX8_isRow wsX8_isRow) := goodIn_app (goodIn_of _ (by decide +kernel)) ggX8_set_X8_isRow
set_option maxRecDepth 20000 in
theorem ggX8_set_X8_against : GoodIn wsX8_set wsX8_against := goodIn_r _ [16, 17, 23, 24, 25, 26, 27, 28, 29, 30, 31, 32, 33, 34, 35, 36, 37] (by decide +kernel) (by decide +kernel)
set_option maxRecDepth 20000 in
theorem gX8_set_X8_against : GoodIn wsX8_set (wsV RX8 53 RX8 yX8_against wsX8_against) := goodIn_app (goodIn_of _ (by decide +kernel)) ggX8_set_X8_against
set_option maxRecDepth 20000 in
theorem ggX8_set_X8_finds : GoodIn wsX8_set wsX8_finds := goodIn_r _ [21, 2, 22, 23, 24, 25, 26, 27, 28, 29, 30, 31, 32, 33, 34, 35, 36, 37] (by decide +kernel) (by decide +kernel)
set_option maxRecDepth 20000 in
theorem gX8_set_X8_finds : GoodIn wsX8_set (wsV RX8 49 RX8 yX8_finds wsX8_finds) := goodIn_app (goodIn_of _ (by decide +kernel)) ggX8_set_X8_finds
theorem dX8_set_0 : decode cX8_set 0 = .ok (.iload_n 1, 1) := by decide +kernel
theorem dX8_set_1 : decode cX8_set 1 = .ok (.invokestatic 42, 3) := by decide +kernel
theorem dX8_set_4 : decode cX8_set 4 = .ok (.ifCond .ne 6, 3) := by decide +kernel
theorem dX8_set_7 : decode cX8_set 7 = .ok (.ldc 48, 2) := by decide +kernel
theorem dX8_set_9 : decode cX8_set 9 = .ok (.ireturn, 1) := by decide +kernel
theorem dX8_set_10 : decode cX8_set 10 = .ok (.aload_n 0, 1) := by decide +kernel
theorem dX8_set_11 : decode cX8_set 11 = .ok (.iload_n 1, 1) := by decide +kernel
theorem dX8_set_12 : decode cX8_set 12 = .ok (.iload_n 2, 1) := by decide +kernel
theorem dX8_set_13 : decode cX8_set 13 = .ok (.iconst 1, 1) := by decide +kernel
theorem dX8_set_14 : decode cX8_set 14 = .ok (.invokevirtual 53, 3) := by decide +kernel
theorem dX8_set_17 : decode cX8_set 17 = .ok (.istore 4, 2) := by decide +kernel
theorem dX8_set_19 : decode cX8_set 19 = .ok (.iload 4, 2) := by decide +kernel
theorem dX8_set_21 : decode cX8_set 21 = .ok (.ifCond .le 10, 3) := by decide +kernel
theorem dX8_set_24 : decode cX8_set 24 = .ok (.aload_n 0, 1) := by decide +kernel
theorem dX8_set_25 : decode cX8_set 25 = .ok (.iload 4, 2) := by decide +kernel
theorem dX8_set_27 : decode cX8_set 27 = .ok (.invokevirtual 49, 3) := by decide +kernel
theorem dX8_set_30 : decode cX8_set 30 = .ok (.ireturn, 1) := by decide +kernel
theorem dX8_set_31 : decode cX8_set 31 = .ok (.aload_n 0, 1) := by decide +kernel
theorem dX8_set_32 : decode cX8_set 32 = .ok (.iconst 0, 1) := by decide +kernel
theorem dX8_set_33 : decode cX8_set 33 = .ok (.putfield 37, 3) := by decide +kernel
theorem dX8_set_36 : decode cX8_set 36 = .ok (.aload_n 0, 1) := by decide +kernel
theorem dX8_set_37 : decode cX8_set 37 = .ok (.getfield 22, 3) := by decide +kernel
theorem dX8_set_40 : decode cX8_set 40 = .ok (.bipush 40, 2) := by decide +kernel
theorem dX8_set_42 : decode cX8_set 42 = .ok (.iload_n 1, 1) := by decide +kernel
theorem dX8_set_43 : decode cX8_set 43 = .ok (.imul, 1) := by decide +kernel
theorem dX8_set_44 : decode cX8_set 44 = .ok (.iload_n 2, 1) := by decide +kernel
theorem dX8_set_45 : decode cX8_set 45 = .ok (.iadd, 1) := by decide +kernel
theorem dX8_set_46 : decode cX8_set 46 = .ok (.aload_n 0, 1) := by decide +kernel
theorem dX8_set_47 : decode cX8_set 47 = .ok (.getfield 19, 3) := by decide +kernel
theorem dX8_set_50 : decode cX8_set 50 = .ok (.iload_n 1, 1) := by decide +kernel
theorem dX8_set_51 : decode cX8_set 51 = .ok (.iaload, 1) := by decide +kernel
theorem dX8_set_52 : decode cX8_set 52 = .ok (.ifCond .ne 8, 3) := by decide +kernel
theorem dX8_set_55 : decode cX8_set 55 = .ok (.iload_n 3, 1) := by decide +kernel
theorem dX8_set_56 : decode cX8_set 56 = .ok (.i2b, 1) := by decide +kernel
theorem dX8_set_57 : decode cX8_set 57 = .ok (.goto 19, 3) := by decide +kernel
theorem dX8_set_60 : decode cX8_set 60 = .ok (.aload_n 0, 1) := by decide +kernel
theorem dX8_set_61 : decode cX8_set 61 = .ok (.getfield 19, 3) := by decide +kernel
theorem dX8_set_64 : decode cX8_set 64 = .ok (.iload_n 1, 1) := by decide +kernel
theorem dX8_set_65 : decode cX8_set 65 = .ok (.iaload, 1) := by decide +kernel
theorem dX8_set_66 : decode cX8_set 66 = .ok (.iconst 1, 1) := by decide +kernel
theorem dX8_set_67 : decode cX8_set 67 = .ok (.if_icmp .ne 8, 3) := by decide +kernel
theorem dX8_set_70 : decode cX8_set 70 = .ok (.iload_n 3, 1) := by decide +kernel
theorem dX8_set_71 : decode cX8_set 71 = .ok (.i2s, 1) := by decide +kernel
theorem dX8_set_72 : decode cX8_set 72 = .ok (.goto 4, 3) := by decide +kernel
theorem dX8_set_75 : decode cX8_set 75 = .ok (.iload_n 3, 1) := by decide +kernel
theorem dX8_set_76 : decode cX8_set 76 = .ok (.iastore, 1) := by decide +kernel
theorem dX8_set_77 : decode cX8_set 77 = .ok (.aload_n 0, 1) := by decide +kernel
theorem dX8_set_78 : decode cX8_set 78 = .ok (.getfield 22, 3) := by decide +kernel
theorem dX8_set_81 : decode cX8_set 81 = .ok (.bipush 40, 2) := by decide +kernel
theorem dX8_set_83 : decode cX8_set 83 = .ok (.iload_n 1, 1) := by decide +kernel
theorem dX8_set_84 : decode cX8_set 84 = .ok (.imul, 1) := by decide +kernel
theorem dX8_set_85 : decode cX8_set 85 = .ok (.iload_n 2, 1) := by decide +kernel
theorem dX8_set_86 : decode cX8_set 86 = .ok (.iadd, 1) := by decide +kernel
theorem dX8_set_87 : decode cX8_set 87 = .ok (.iaload, 1) := by decide +kernel
theorem dX8_set_88 : decode cX8_set 88 = .ok (.ireturn, 1) := by decide +kernel
set_option maxRecDepth 20000 in
theorem ggX8_copy_X8_isRow : GoodIn wsX8_copy wsX8_isRow := goodIn_r _ [10, 11, 12, 13, 9, 14] (by decide +kernel) (by decide +kernel)
set_option maxRecDepth 20000 in
theorem gX8_copy_X8_isRow : GoodIn wsX8_copy (va_wsS RX8 42 yX8_isRow wsX8_isRow) := goodIn_app (goodIn_of _ (by decide +kernel)) ggX8_copy_X8_isRow
set_option maxRecDepth 20000 in
theorem ggX8_copy_X8_finds : GoodIn wsX8_copy wsX8_finds := goodIn_r _ [18, 4, 19, 24, 25, 26, 27, 28, 29, 30, 31, 32, 33, 34, 35, 36, 37, 38] (by decide +kernel) (by decide +kernel)
set_option maxRecDepth 20000 in
theorem gX8_copy_X8_finds : GoodIn wsX8_copy (wsV RX8 49 RX8 yX8_finds wsX8_finds) := goodIn_app (goodIn_of _ (by decide +kernel)) ggX8_copy_X8_finds
set_option maxRecDepth 20000 in
theorem ggX8_copy_X8_against : GoodIn wsX8_copy wsX8_against := goodIn_r _ [23, 2, 24, 25, 26, 27, 28, 29, 30, 31, 32, 33, 34, 35, 36, 37, 38] (by decide +kernel) (by decide +kernel)
set_option maxRecDepth 20000 in
theorem gX8_copy_X8_against : GoodIn wsX8_copy (wsV RX8 53 RX8 yX8_against wsX8_against) := goodIn_app (goodIn_of _ (by decide +kernel)) ggX8_copy_X8_against
theorem dX8_copy_0 : decode cX8_copy 0 = .ok (.iload_n 1, 1) := by decide +kernel
theorem dX8_copy_1 : decode cX8_copy 1 = .ok (.invokestatic 42, 3) := by decide +kernel
theorem dX8_copy_4 : decode cX8_copy 4 = .ok (.ifCond .eq 10, 3) := by decide +kernel
theorem dX8_copy_7 : decode cX8_copy 7 = .ok (.iload_n 3, 1) := by decide +kernel
theorem dX8_copy_8 : decode cX8_copy 8 = .ok (.invokestatic 42, 3) := by decide +kernel
theorem dX8_copy_11 : decode cX8_copy 11 = .ok (.ifCond .ne 6, 3) := by decide +kernel
theorem dX8_copy_14 : decode cX8_copy 14 = .ok (.ldc 48, 2) := by decide +kernel
theorem dX8_copy_16 : decode cX8_copy 16 = .ok (.ireturn, 1) := by decide +kernel
theorem dX8_copy_17 : decode cX8_copy 17 = .ok (.aload_n 0, 1) := by decide +kernel
theorem dX8_copy_18 : decode cX8_copy 18 = .ok (.getfield 16, 3) := by decide +kernel
theorem dX8_copy_21 : decode cX8_copy 21 = .ok (.iload_n 1, 1) := by decide +kernel
theorem dX8_copy_22 : decode cX8_copy 22 = .ok (.iaload, 1) := by decide +kernel
theorem dX8_copy_23 : decode cX8_copy 23 = .ok (.ifCond .lt 12, 3) := by decide +kernel
theorem dX8_copy_26 : decode cX8_copy 26 = .ok (.aload_n 0, 1) := by decide +kernel
theorem dX8_copy_27 : decode cX8_copy 27 = .ok (.getfield 16, 3) := by decide +kernel
theorem dX8_copy_30 : decode cX8_copy 30 = .ok (.iload_n 3, 1) := by decide +kernel
theorem dX8_copy_31 : decode cX8_copy 31 = .ok (.iaload, 1) := by decide +kernel
theorem dX8_copy_32 : decode cX8_copy 32 = .ok (.ifCond .ge 9, 3) := by decide +kernel
theorem dX8_copy_35 : decode cX8_copy 35 = .ok (.aload_n 0, 1) := by decide +kernel
theorem dX8_copy_36 : decode cX8_copy 36 = .ok (.iconst 1, 1) := by decide +kernel
theorem dX8_copy_37 : decode cX8_copy 37 = .ok (.invokevirtual 49, 3) := by decide +kernel
theorem dX8_copy_40 : decode cX8_copy 40 = .ok (.ireturn, 1) := by decide +kernel
theorem dX8_copy_41 : decode cX8_copy 41 = .ok (.aload_n 0, 1) := by decide +kernel
theorem dX8_copy_42 : decode cX8_copy 42 = .ok (.getfield 19, 3) := by decide +kernel
theorem dX8_copy_45 : decode cX8_copy 45 = .ok (.iload_n 1, 1) := by decide +kernel
theorem dX8_copy_46 : decode cX8_copy 46 = .ok (.iaload, 1) := by decide +kernel
theorem dX8_copy_47 : decode cX8_copy 47 = .ok (.aload_n 0, 1) := by decide +kernel
theorem dX8_copy_48 : decode cX8_copy 48 = .ok (.getfield 19, 3) := by decide +kernel
theorem dX8_copy_51 : decode cX8_copy 51 = .ok (.iload_n 3, 1) := by decide +kernel
theorem dX8_copy_52 : decode cX8_copy 52 = .ok (.iaload, 1) := by decide +kernel
theorem dX8_copy_53 : decode cX8_copy 53 = .ok (.if_icmp .eq 9, 3) := by decide +kernel
theorem dX8_copy_56 : decode cX8_copy 56 = .ok (.aload_n 0, 1) := by decide +kernel
theorem dX8_copy_57 : decode cX8_copy 57 = .ok (.iconst 5, 1) := by decide +kernel
theorem dX8_copy_58 : decode cX8_copy 58 = .ok (.invokevirtual 49, 3) := by decide +kernel
theorem dX8_copy_61 : decode cX8_copy 61 = .ok (.ireturn, 1) := by decide +kernel
theorem dX8_copy_62 : decode cX8_copy 62 = .ok (.aload_n 0, 1) := by decide +kernel
theorem dX8_copy_63 : decode cX8_copy 63 = .ok (.iload_n 1, 1) := by decide +kernel
theorem dX8_copy_64 : decode cX8_copy 64 = .ok (.iload_n 2, 1) := by decide +kernel
theorem dX8_copy_65 : decode cX8_copy 65 = .ok (.iload 5, 2) := by decide +kernel
theorem dX8_copy_67 : decode cX8_copy 67 = .ok (.invokevirtual 53, 3) := by decide +kernel
theorem dX8_copy_70 : decode cX8_copy 70 = .ok (.ifCond .gt 15, 3) := by decide +kernel
theorem dX8_copy_73 : decode cX8_copy 73 = .ok (.aload_n 0, 1) := by decide +kernel
theorem dX8_copy_74 : decode cX8_copy 74 = .ok (.iload_n 3, 1) := by decide +kernel
theorem dX8_copy_75 : decode cX8_copy 75 = .ok (.iload 4, 2) := by decide +kernel
theorem dX8_copy_77 : decode cX8_copy 77 = .ok (.iload 5, 2) := by decide +kernel
theorem dX8_copy_79 : decode cX8_copy 79 = .ok (.invokevirtual 53, 3) := by decide +kernel
theorem dX8_copy_82 : decode cX8_copy 82 = .ok (.ifCond .le 9, 3) := by decide +kernel
theorem dX8_copy_85 : decode cX8_copy 85 = .ok (.aload_n 0, 1) := by decide +kernel
theorem dX8_copy_86 : decode cX8_copy 86 = .ok (.iconst 2, 1) := by decide +kernel
theorem dX8_copy_87 : decode cX8_copy 87 = .ok (.invokevirtual 49, 3) := by decide +kernel
theorem dX8_copy_90 : decode cX8_copy 90 = .ok (.ireturn, 1) := by decide +kernel
theorem dX8_copy_91 : decode cX8_copy 91 = .ok (.aload_n 0, 1) := by decide +kernel
theorem dX8_copy_92 : decode cX8_copy 92 = .ok (.iconst 0, 1) := by decide +kernel
theorem dX8_copy_93 : decode cX8_copy 93 = .ok (.putfield 37, 3) := by decide +kernel
theorem dX8_copy_96 : decode cX8_copy 96 = .ok (.iconst 0, 1) := by decide +kernel
theorem dX8_copy_97 : decode cX8_copy 97 = .ok (.istore 6, 2) := by decide +kernel
theorem dX8_copy_99 : decode cX8_copy 99 = .ok (.iload 6, 2) := by decide +kernel
theorem dX8_copy_101 : decode cX8_copy 101 = .ok (.iload 5, 2) := by decide +kernel
theorem dX8_copy_103 : decode cX8_copy 103 = .ok (.if_icmp .ge 30, 3) := by decide +kernel
theorem dX8_copy_106 : decode cX8_copy 106 = .ok (.aload_n 0, 1) := by decide +kernel
theorem dX8_copy_107 : decode cX8_copy 107 = .ok (.getfield 25, 3) := by decide +kernel
theorem dX8_copy_110 : decode cX8_copy 110 = .ok (.iload 6, 2) := by decide +kernel
theorem dX8_copy_112 : decode cX8_copy 112 = .ok (.aload_n 0, 1) := by decide +kernel
theorem dX8_copy_113 : decode cX8_copy 113 = .ok (.getfield 22, 3) := by decide +kernel
theorem dX8_copy_116 : decode cX8_copy 116 = .ok (.bipush 40, 2) := by decide +kernel
theorem dX8_copy_118 : decode cX8_copy 118 = .ok (.iload_n 1, 1) := by decide +kernel
theorem dX8_copy_119 : decode cX8_copy 119 = .ok (.imul, 1) := by decide +kernel
theorem dX8_copy_120 : decode cX8_copy 120 = .ok (.iload_n 2, 1) := by decide +kernel
theorem dX8_copy_121 : decode cX8_copy 121 = .ok (.iadd, 1) := by decide +kernel
theorem dX8_copy_122 : decode cX8_copy 122 = .ok (.iload 6, 2) := by decide +kernel
theorem dX8_copy_124 : decode cX8_copy 124 = .ok (.iadd, 1) := by decide +kernel
theorem dX8_copy_125 : decode cX8_copy 125 = .ok (.iaload, 1) := by decide +kernel
theorem dX8_copy_126 : decode cX8_copy 126 = .ok (.iastore, 1) := by decide +kernel
theorem dX8_copy_127 : decode cX8_copy 127 = .ok (.iinc 6 1, 3) := by decide +kernel
theorem dX8_copy_130 : decode cX8_copy 130 = .ok (.goto (-31), 3) := by decide +kernel
theorem dX8_copy_133 : decode cX8_copy 133 = .ok (.iconst 0, 1) := by decide +kernel
theorem dX8_copy_134 : decode cX8_copy 134 = .ok (.istore 6, 2) := by decide +kernel
theorem dX8_copy_136 : decode cX8_copy 136 = .ok (.iload 6, 2) := by decide +kernel
theorem dX8_copy_138 : decode cX8_copy 138 = .ok (.iload 5, 2) := by decide +kernel
theorem dX8_copy_140 : decode cX8_copy 140 = .ok (.if_icmp .ge 31, 3) := by decide +kernel
theorem dX8_copy_143 : decode cX8_copy 143 = .ok (.aload_n 0, 1) := by decide +kernel
theorem dX8_copy_144 : decode cX8_copy 144 = .ok (.getfield 22, 3) := by decide +kernel
theorem dX8_copy_147 : decode cX8_copy 147 = .ok (.bipush 40, 2) := by decide +kernel
theorem dX8_copy_149 : decode cX8_copy 149 = .ok (.iload_n 3, 1) := by decide +kernel
theorem dX8_copy_150 : decode cX8_copy 150 = .ok (.imul, 1) := by decide +kernel
theorem dX8_copy_151 : decode cX8_copy 151 = .ok (.iload 4, 2) := by decide +kernel
theorem dX8_copy_153 : decode cX8_copy 153 = .ok (.iadd, 1) := by decide +kernel
theorem dX8_copy_154 : decode cX8_copy 154 = .ok (.iload 6, 2) := by decide +kernel
theorem dX8_copy_156 : decode cX8_copy 156 = .ok (.iadd, 1) := by decide +kernel
theorem dX8_copy_157 : decode cX8_copy 157 = .ok (.aload_n 0, 1) := by decide +kernel
theorem dX8_copy_158 : decode cX8_copy 158 = .ok (.getfield 25, 3) := by decide +kernel
theorem dX8_copy_161 : decode cX8_copy 161 = .ok (.iload 6, 2) := by decide +kernel
theorem dX8_copy_163 : decode cX8_copy 163 = .ok (.iaload, 1) := by decide +kernel
theorem dX8_copy_164 : decode cX8_copy 164 = .ok (.iastore, 1) := by decide +kernel
theorem dX8_copy_165 : decode cX8_copy 165 = .ok (.iinc 6 1, 3) := by decide +kernel
theorem dX8_copy_168 : decode cX8_copy 168 = .ok (.goto (-32), 3) := by decide +kernel
theorem dX8_copy_171 : decode cX8_copy 171 = .ok (.iload 5, 2) := by decide +kernel
theorem dX8_copy_173 : decode cX8_copy 173 = .ok (.ireturn, 1) := by decide +kernel
set_option maxRecDepth 20000 in
theorem ggX8_drop_X8_isRow : GoodIn wsX8_drop wsX8_isRow := goodIn_r _ [7, 8, 9, 10, 6, 11] (by decide +kernel) (by decide +kernel)
set_option maxRecDepth 20000 in
theorem gX8_drop_X8_isRow : GoodIn wsX8_drop (va_wsS RX8 42 yX8_isRow wsX8_isRow) := goodIn_app (goodIn_of _ (by decide +kernel)) ggX8_drop_X8_isRow
set_option maxRecDepth 20000 in
theorem ggX8_drop_X8_finds : GoodIn wsX8_drop wsX8_finds := goodIn_r _ [15, 3, 16, 17, 18, 19, 20, 21, 22, 23, 24, 25, 26, 27, 28, 29, 30, 31] (by decide +kernel) (by decide +kernel)
set_option maxRecDepth 20000 in
theorem gX8_drop_X8_finds : GoodIn wsX8_drop (wsV RX8 49 RX8 yX8_finds wsX8_finds) := goodIn_app (goodIn_of _ (by decide +kernel)) ggX8_drop_X8_finds
theorem dX8_drop_0 : decode cX8_drop 0 = .ok (.iload_n 1, 1) := by decide +kernel
theorem dX8_drop_1 : decode cX8_drop 1 = .ok (.invokestatic 42, 3) := by decide +kernel
theorem dX8_drop_4 : decode cX8_drop 4 = .ok (.ifCond .ne 6, 3) := by decide +kernel
theorem dX8_drop_7 : decode cX8_drop 7 = .ok (.ldc 48, 2) := by decide +kernel
theorem dX8_drop_9 : decode cX8_drop 9 = .ok (.ireturn, 1) := by decide +kernel
theorem dX8_drop_10 : decode cX8_drop 10 = .ok (.aload_n 0, 1) := by decide +kernel
theorem dX8_drop_11 : decode cX8_drop 11 = .ok (.getfield 16, 3) := by decide +kernel
theorem dX8_drop_14 : decode cX8_drop 14 = .ok (.iload_n 1, 1) := by decide +kernel
theorem dX8_drop_15 : decode cX8_drop 15 = .ok (.iaload, 1) := by decide +kernel
theorem dX8_drop_16 : decode cX8_drop 16 = .ok (.ifCond .ge 9, 3) := by decide +kernel
theorem dX8_drop_19 : decode cX8_drop 19 = .ok (.aload_n 0, 1) := by decide +kernel
theorem dX8_drop_20 : decode cX8_drop 20 = .ok (.iconst 1, 1) := by decide +kernel
theorem dX8_drop_21 : decode cX8_drop 21 = .ok (.invokevirtual 49, 3) := by decide +kernel
theorem dX8_drop_24 : decode cX8_drop 24 = .ok (.ireturn, 1) := by decide +kernel
theorem dX8_drop_25 : decode cX8_drop 25 = .ok (.aload_n 0, 1) := by decide +kernel
theorem dX8_drop_26 : decode cX8_drop 26 = .ok (.iconst 0, 1) := by decide +kernel
theorem dX8_drop_27 : decode cX8_drop 27 = .ok (.putfield 37, 3) := by decide +kernel
theorem dX8_drop_30 : decode cX8_drop 30 = .ok (.aload_n 0, 1) := by decide +kernel
theorem dX8_drop_31 : decode cX8_drop 31 = .ok (.getfield 16, 3) := by decide +kernel
theorem dX8_drop_34 : decode cX8_drop 34 = .ok (.iload_n 1, 1) := by decide +kernel
theorem dX8_drop_35 : decode cX8_drop 35 = .ok (.iaload, 1) := by decide +kernel
theorem dX8_drop_36 : decode cX8_drop 36 = .ok (.istore_n 2, 1) := by decide +kernel
theorem dX8_drop_37 : decode cX8_drop 37 = .ok (.aload_n 0, 1) := by decide +kernel
theorem dX8_drop_38 : decode cX8_drop 38 = .ok (.getfield 16, 3) := by decide +kernel
theorem dX8_drop_41 : decode cX8_drop 41 = .ok (.iload_n 1, 1) := by decide +kernel
theorem dX8_drop_42 : decode cX8_drop 42 = .ok (.iconst (-1), 1) := by decide +kernel
theorem dX8_drop_43 : decode cX8_drop 43 = .ok (.iastore, 1) := by decide +kernel
theorem dX8_drop_44 : decode cX8_drop 44 = .ok (.iload_n 2, 1) := by decide +kernel
theorem dX8_drop_45 : decode cX8_drop 45 = .ok (.ireturn, 1) := by decide +kernel
set_option maxRecDepth 20000 in
theorem ggX8_feed_X8_in : GoodIn wsX8_feed wsX8_in := goodIn_r _ [9] (by decide +kernel) (by decide +kernel)
set_option maxRecDepth 20000 in
theorem gX8_feed_X8_in : GoodIn wsX8_feed (va_wsS RX8 31 yX8_in wsX8_in) := goodIn_app (goodIn_of _ (by decide +kernel)) ggX8_feed_X8_in
theorem dX8_feed_0 : decode cX8_feed 0 = .ok (.iload_n 1, 1) := by decide +kernel
theorem dX8_feed_1 : decode cX8_feed 1 = .ok (.i2l, 1) := by decide +kernel
theorem dX8_feed_2 : decode cX8_feed 2 = .ok (.lconst 0, 1) := by decide +kernel
theorem dX8_feed_3 : decode cX8_feed 3 = .ok (.ldc2_w 57, 3) := by decide +kernel
theorem dX8_feed_6 : decode cX8_feed 6 = .ok (.invokestatic 31, 3) := by decide +kernel
theorem dX8_feed_9 : decode cX8_feed 9 = .ok (.ifCond .ne 6, 3) := by decide +kernel
theorem dX8_feed_12 : decode cX8_feed 12 = .ok (.ldc 48, 2) := by decide +kernel
theorem dX8_feed_14 : decode cX8_feed 14 = .ok (.ireturn, 1) := by decide +kernel
theorem dX8_feed_15 : decode cX8_feed 15 = .ok (.aload_n 0, 1) := by decide +kernel
theorem dX8_feed_16 : decode cX8_feed 16 = .ok (.getfield 59, 3) := by decide +kernel
theorem dX8_feed_19 : decode cX8_feed 19 = .ok (.sipush 130, 3) := by decide +kernel
theorem dX8_feed_22 : decode cX8_feed 22 = .ok (.if_icmp .ne 6, 3) := by decide +kernel
theorem dX8_feed_25 : decode cX8_feed 25 = .ok (.ldc 62, 2) := by decide +kernel
theorem dX8_feed_27 : decode cX8_feed 27 = .ok (.ireturn, 1) := by decide +kernel
theorem dX8_feed_28 : decode cX8_feed 28 = .ok (.aload_n 0, 1) := by decide +kernel
theorem dX8_feed_29 : decode cX8_feed 29 = .ok (.getfield 13, 3) := by decide +kernel
theorem dX8_feed_32 : decode cX8_feed 32 = .ok (.aload_n 0, 1) := by decide +kernel
theorem dX8_feed_33 : decode cX8_feed 33 = .ok (.getfield 59, 3) := by decide +kernel
theorem dX8_feed_36 : decode cX8_feed 36 = .ok (.iload_n 1, 1) := by decide +kernel
theorem dX8_feed_37 : decode cX8_feed 37 = .ok (.iastore, 1) := by decide +kernel
theorem dX8_feed_38 : decode cX8_feed 38 = .ok (.aload_n 0, 1) := by decide +kernel
theorem dX8_feed_39 : decode cX8_feed 39 = .ok (.dup, 1) := by decide +kernel
theorem dX8_feed_40 : decode cX8_feed 40 = .ok (.getfield 59, 3) := by decide +kernel
theorem dX8_feed_43 : decode cX8_feed 43 = .ok (.iconst 1, 1) := by decide +kernel
theorem dX8_feed_44 : decode cX8_feed 44 = .ok (.iadd, 1) := by decide +kernel
theorem dX8_feed_45 : decode cX8_feed 45 = .ok (.putfield 59, 3) := by decide +kernel
theorem dX8_feed_48 : decode cX8_feed 48 = .ok (.aload_n 0, 1) := by decide +kernel
theorem dX8_feed_49 : decode cX8_feed 49 = .ok (.getfield 59, 3) := by decide +kernel
theorem dX8_feed_52 : decode cX8_feed 52 = .ok (.ireturn, 1) := by decide +kernel
theorem dX8_here_0 : decode cX8_here 0 = .ok (.aload_n 0, 1) := by decide +kernel
theorem dX8_here_1 : decode cX8_here 1 = .ok (.getfield 63, 3) := by decide +kernel
theorem dX8_here_4 : decode cX8_here 4 = .ok (.aload_n 0, 1) := by decide +kernel
theorem dX8_here_5 : decode cX8_here 5 = .ok (.getfield 59, 3) := by decide +kernel
theorem dX8_here_8 : decode cX8_here 8 = .ok (.if_icmp .ge 15, 3) := by decide +kernel
theorem dX8_here_11 : decode cX8_here 11 = .ok (.aload_n 0, 1) := by decide +kernel
theorem dX8_here_12 : decode cX8_here 12 = .ok (.getfield 13, 3) := by decide +kernel
theorem dX8_here_15 : decode cX8_here 15 = .ok (.aload_n 0, 1) := by decide +kernel
theorem dX8_here_16 : decode cX8_here 16 = .ok (.getfield 63, 3) := by decide +kernel
theorem dX8_here_19 : decode cX8_here 19 = .ok (.iaload, 1) := by decide +kernel
theorem dX8_here_20 : decode cX8_here 20 = .ok (.goto 4, 3) := by decide +kernel
theorem dX8_here_23 : decode cX8_here 23 = .ok (.iconst (-1), 1) := by decide +kernel
theorem dX8_here_24 : decode cX8_here 24 = .ok (.ireturn, 1) := by decide +kernel
theorem dX8_fails_0 : decode cX8_fails 0 = .ok (.aload_n 0, 1) := by decide +kernel
theorem dX8_fails_1 : decode cX8_fails 1 = .ok (.iload_n 1, 1) := by decide +kernel
theorem dX8_fails_2 : decode cX8_fails 2 = .ok (.putfield 66, 3) := by decide +kernel
theorem dX8_fails_5 : decode cX8_fails 5 = .ok (.aload_n 0, 1) := by decide +kernel
theorem dX8_fails_6 : decode cX8_fails 6 = .ok (.iload_n 2, 1) := by decide +kernel
theorem dX8_fails_7 : decode cX8_fails 7 = .ok (.putfield 69, 3) := by decide +kernel
theorem dX8_fails_10 : decode cX8_fails 10 = .ok (.iconst 0, 1) := by decide +kernel
theorem dX8_fails_11 : decode cX8_fails 11 = .ok (.ireturn, 1) := by decide +kernel
set_option maxRecDepth 20000 in
theorem ggX8_takes_X8_here : GoodIn wsX8_takes wsX8_here := goodIn_r _ [6, 1, 7, 8, 15, 16, 17, 18, 19, 20, 21, 22, 23, 24, 25, 26, 27, 28, 29] (by decide +kernel) (by decide +kernel)
set_option maxRecDepth 20000 in
theorem gX8_takes_X8_here : GoodIn wsX8_takes (wsV RX8 72 RX8 yX8_here wsX8_here) := goodIn_app (goodIn_of _ (by decide +kernel)) ggX8_takes_X8_here
set_option maxRecDepth 20000 in
theorem ggX8_takes_X8_fails : GoodIn wsX8_takes wsX8_fails := goodIn_r _ [12, 13, 14, 15, 16, 17, 18, 19, 20, 21, 22, 23, 24, 25, 26, 27, 28, 29] (by decide +kernel) (by decide +kernel)
set_option maxRecDepth 20000 in
theorem gX8_takes_X8_fails : GoodIn wsX8_takes (wsV RX8 76 RX8 yX8_fails wsX8_fails) := goodIn_app (goodIn_of _ (by decide +kernel)) ggX8_takes_X8_fails
theorem dX8_takes_0 : decode cX8_takes 0 = .ok (.aload_n 0, 1) := by decide +kernel
theorem dX8_takes_1 : decode cX8_takes 1 = .ok (.invokevirtual 72, 3) := by decide +kernel
theorem dX8_takes_4 : decode cX8_takes 4 = .ok (.iload_n 1, 1) := by decide +kernel
theorem dX8_takes_5 : decode cX8_takes 5 = .ok (.if_icmp .eq 13, 3) := by decide +kernel
theorem dX8_takes_8 : decode cX8_takes 8 = .ok (.aload_n 0, 1) := by decide +kernel
theorem dX8_takes_9 : decode cX8_takes 9 = .ok (.iconst 1, 1) := by decide +kernel
theorem dX8_takes_10 : decode cX8_takes 10 = .ok (.aload_n 0, 1) := by decide +kernel
theorem dX8_takes_11 : decode cX8_takes 11 = .ok (.getfield 63, 3) := by decide +kernel
theorem dX8_takes_14 : decode cX8_takes 14 = .ok (.invokevirtual 76, 3) := by decide +kernel
theorem dX8_takes_17 : decode cX8_takes 17 = .ok (.ireturn, 1) := by decide +kernel
theorem dX8_takes_18 : decode cX8_takes 18 = .ok (.aload_n 0, 1) := by decide +kernel
theorem dX8_takes_19 : decode cX8_takes 19 = .ok (.dup, 1) := by decide +kernel
theorem dX8_takes_20 : decode cX8_takes 20 = .ok (.getfield 63, 3) := by decide +kernel
theorem dX8_takes_23 : decode cX8_takes 23 = .ok (.iconst 1, 1) := by decide +kernel
theorem dX8_takes_24 : decode cX8_takes 24 = .ok (.iadd, 1) := by decide +kernel
theorem dX8_takes_25 : decode cX8_takes 25 = .ok (.putfield 63, 3) := by decide +kernel
theorem dX8_takes_28 : decode cX8_takes 28 = .ok (.iconst 1, 1) := by decide +kernel
theorem dX8_takes_29 : decode cX8_takes 29 = .ok (.ireturn, 1) := by decide +kernel
set_option maxRecDepth 20000 in
theorem ggX8_takesNumber_X8_here : GoodIn wsX8_takesNumber wsX8_here := goodIn_r _ [10, 1, 11, 12, 22, 23, 24, 25, 26, 27, 28, 29, 30, 31, 32, 33, 34, 35, 36] (by decide +kernel) (by decide +kernel)
set_option maxRecDepth 20000 in
theorem gX8_takesNumber_X8_here : GoodIn wsX8_takesNumber (wsV RX8 72 RX8 yX8_here wsX8_here) := goodIn_app (goodIn_of _ (by decide +kernel)) ggX8_takesNumber_X8_here
set_option maxRecDepth 20000 in
theorem ggX8_takesNumber_X8_in : GoodIn wsX8_takesNumber wsX8_in := goodIn_r _ [15] (by decide +kernel) (by decide +kernel)
set_option maxRecDepth 20000 in
theorem gX8_takesNumber_X8_in : GoodIn wsX8_takesNumber (va_wsS RX8 31 yX8_in wsX8_in) := goodIn_app (goodIn_of _ (by decide +kernel)) ggX8_takesNumber_X8_in
set_option maxRecDepth 20000 in
theorem ggX8_takesNumber_X8_fails : GoodIn wsX8_takesNumber wsX8_fails := goodIn_r _ [19, 20, 21, 22, 23, 24, 25, 26, 27, 28, 29, 30, 31, 32, 33, 34, 35, 36] (by decide +kernel) (by decide +kernel)
set_option maxRecDepth 20000 in
theorem gX8_takesNumber_X8_fails : GoodIn wsX8_takesNumber (wsV RX8 76 RX8 yX8_fails wsX8_fails) := goodIn_app (goodIn_of _ (by decide +kernel)) ggX8_takesNumber_X8_fails
theorem dX8_takesNumber_0 : decode cX8_takesNumber 0 = .ok (.aload_n 0, 1) := by decide +kernel
theorem dX8_takesNumber_1 : decode cX8_takesNumber 1 = .ok (.getfield 63, 3) := by decide +kernel
theorem dX8_takesNumber_4 : decode cX8_takesNumber 4 = .ok (.istore_n 3, 1) := by decide +kernel
theorem dX8_takesNumber_5 : decode cX8_takesNumber 5 = .ok (.aload_n 0, 1) := by decide +kernel
theorem dX8_takesNumber_6 : decode cX8_takesNumber 6 = .ok (.iconst 0, 1) := by decide +kernel
theorem dX8_takesNumber_7 : decode cX8_takesNumber 7 = .ok (.putfield 80, 3) := by decide +kernel
theorem dX8_takesNumber_10 : decode cX8_takesNumber 10 = .ok (.aload_n 0, 1) := by decide +kernel
theorem dX8_takesNumber_11 : decode cX8_takesNumber 11 = .ok (.invokevirtual 72, 3) := by decide +kernel
theorem dX8_takesNumber_14 : decode cX8_takesNumber 14 = .ok (.i2l, 1) := by decide +kernel
theorem dX8_takesNumber_15 : decode cX8_takesNumber 15 = .ok (.ldc2_w 83, 3) := by decide +kernel
theorem dX8_takesNumber_18 : decode cX8_takesNumber 18 = .ok (.ldc2_w 85, 3) := by decide +kernel
theorem dX8_takesNumber_21 : decode cX8_takesNumber 21 = .ok (.invokestatic 31, 3) := by decide +kernel
theorem dX8_takesNumber_24 : decode cX8_takesNumber 24 = .ok (.ifCond .eq 52, 3) := by decide +kernel
theorem dX8_takesNumber_27 : decode cX8_takesNumber 27 = .ok (.aload_n 0, 1) := by decide +kernel
theorem dX8_takesNumber_28 : decode cX8_takesNumber 28 = .ok (.aload_n 0, 1) := by decide +kernel
theorem dX8_takesNumber_29 : decode cX8_takesNumber 29 = .ok (.getfield 63, 3) := by decide +kernel
theorem dX8_takesNumber_32 : decode cX8_takesNumber 32 = .ok (.iload_n 3, 1) := by decide +kernel
theorem dX8_takesNumber_33 : decode cX8_takesNumber 33 = .ok (.isub, 1) := by decide +kernel
theorem dX8_takesNumber_34 : decode cX8_takesNumber 34 = .ok (.iconst 2, 1) := by decide +kernel
theorem dX8_takesNumber_35 : decode cX8_takesNumber 35 = .ok (.if_icmp .ge 21, 3) := by decide +kernel
theorem dX8_takesNumber_38 : decode cX8_takesNumber 38 = .ok (.bipush 10, 2) := by decide +kernel
theorem dX8_takesNumber_40 : decode cX8_takesNumber 40 = .ok (.aload_n 0, 1) := by decide +kernel
theorem dX8_takesNumber_41 : decode cX8_takesNumber 41 = .ok (.getfield 80, 3) := by decide +kernel
theorem dX8_takesNumber_44 : decode cX8_takesNumber 44 = .ok (.imul, 1) := by decide +kernel
theorem dX8_takesNumber_45 : decode cX8_takesNumber 45 = .ok (.aload_n 0, 1) := by decide +kernel
theorem dX8_takesNumber_46 : decode cX8_takesNumber 46 = .ok (.invokevirtual 72, 3) := by decide +kernel
theorem dX8_takesNumber_49 : decode cX8_takesNumber 49 = .ok (.iadd, 1) := by decide +kernel
theorem dX8_takesNumber_50 : decode cX8_takesNumber 50 = .ok (.bipush 48, 2) := by decide +kernel
theorem dX8_takesNumber_52 : decode cX8_takesNumber 52 = .ok (.isub, 1) := by decide +kernel
theorem dX8_takesNumber_53 : decode cX8_takesNumber 53 = .ok (.goto 7, 3) := by decide +kernel
theorem dX8_takesNumber_56 : decode cX8_takesNumber 56 = .ok (.aload_n 0, 1) := by decide +kernel
theorem dX8_takesNumber_57 : decode cX8_takesNumber 57 = .ok (.getfield 80, 3) := by decide +kernel
theorem dX8_takesNumber_60 : decode cX8_takesNumber 60 = .ok (.putfield 80, 3) := by decide +kernel
theorem dX8_takesNumber_63 : decode cX8_takesNumber 63 = .ok (.aload_n 0, 1) := by decide +kernel
theorem dX8_takesNumber_64 : decode cX8_takesNumber 64 = .ok (.dup, 1) := by decide +kernel
theorem dX8_takesNumber_65 : decode cX8_takesNumber 65 = .ok (.getfield 63, 3) := by decide +kernel
theorem dX8_takesNumber_68 : decode cX8_takesNumber 68 = .ok (.iconst 1, 1) := by decide +kernel
theorem dX8_takesNumber_69 : decode cX8_takesNumber 69 = .ok (.iadd, 1) := by decide +kernel
theorem dX8_takesNumber_70 : decode cX8_takesNumber 70 = .ok (.putfield 63, 3) := by decide +kernel
theorem dX8_takesNumber_73 : decode cX8_takesNumber 73 = .ok (.goto (-63), 3) := by decide +kernel
theorem dX8_takesNumber_76 : decode cX8_takesNumber 76 = .ok (.aload_n 0, 1) := by decide +kernel
theorem dX8_takesNumber_77 : decode cX8_takesNumber 77 = .ok (.getfield 63, 3) := by decide +kernel
theorem dX8_takesNumber_80 : decode cX8_takesNumber 80 = .ok (.iload_n 3, 1) := by decide +kernel
theorem dX8_takesNumber_81 : decode cX8_takesNumber 81 = .ok (.isub, 1) := by decide +kernel
theorem dX8_takesNumber_82 : decode cX8_takesNumber 82 = .ok (.i2l, 1) := by decide +kernel
theorem dX8_takesNumber_83 : decode cX8_takesNumber 83 = .ok (.lconst 1, 1) := by decide +kernel
theorem dX8_takesNumber_84 : decode cX8_takesNumber 84 = .ok (.ldc2_w 46, 3) := by decide +kernel
theorem dX8_takesNumber_87 : decode cX8_takesNumber 87 = .ok (.invokestatic 31, 3) := by decide +kernel
theorem dX8_takesNumber_90 : decode cX8_takesNumber 90 = .ok (.ifCond .ne 10, 3) := by decide +kernel
theorem dX8_takesNumber_93 : decode cX8_takesNumber 93 = .ok (.aload_n 0, 1) := by decide +kernel
theorem dX8_takesNumber_94 : decode cX8_takesNumber 94 = .ok (.iconst 1, 1) := by decide +kernel
theorem dX8_takesNumber_95 : decode cX8_takesNumber 95 = .ok (.iload_n 3, 1) := by decide +kernel
theorem dX8_takesNumber_96 : decode cX8_takesNumber 96 = .ok (.invokevirtual 76, 3) := by decide +kernel
theorem dX8_takesNumber_99 : decode cX8_takesNumber 99 = .ok (.ireturn, 1) := by decide +kernel
theorem dX8_takesNumber_100 : decode cX8_takesNumber 100 = .ok (.aload_n 0, 1) := by decide +kernel
theorem dX8_takesNumber_101 : decode cX8_takesNumber 101 = .ok (.getfield 80, 3) := by decide +kernel
theorem dX8_takesNumber_104 : decode cX8_takesNumber 104 = .ok (.i2l, 1) := by decide +kernel
theorem dX8_takesNumber_105 : decode cX8_takesNumber 105 = .ok (.iload_n 1, 1) := by decide +kernel
theorem dX8_takesNumber_106 : decode cX8_takesNumber 106 = .ok (.i2l, 1) := by decide +kernel
theorem dX8_takesNumber_107 : decode cX8_takesNumber 107 = .ok (.iload_n 2, 1) := by decide +kernel
theorem dX8_takesNumber_108 : decode cX8_takesNumber 108 = .ok (.i2l, 1) := by decide +kernel
theorem dX8_takesNumber_109 : decode cX8_takesNumber 109 = .ok (.invokestatic 31, 3) := by decide +kernel
theorem dX8_takesNumber_112 : decode cX8_takesNumber 112 = .ok (.ifCond .ne 10, 3) := by decide +kernel
theorem dX8_takesNumber_115 : decode cX8_takesNumber 115 = .ok (.aload_n 0, 1) := by decide +kernel
theorem dX8_takesNumber_116 : decode cX8_takesNumber 116 = .ok (.iconst 2, 1) := by decide +kernel
theorem dX8_takesNumber_117 : decode cX8_takesNumber 117 = .ok (.iload_n 3, 1) := by decide +kernel
theorem dX8_takesNumber_118 : decode cX8_takesNumber 118 = .ok (.invokevirtual 76, 3) := by decide +kernel
theorem dX8_takesNumber_121 : decode cX8_takesNumber 121 = .ok (.ireturn, 1) := by decide +kernel
theorem dX8_takesNumber_122 : decode cX8_takesNumber 122 = .ok (.iconst 1, 1) := by decide +kernel
theorem dX8_takesNumber_123 : decode cX8_takesNumber 123 = .ok (.ireturn, 1) := by decide +kernel
theorem dX8_kindOf_0 : decode cX8_kindOf 0 = .ok (.iload_n 0, 1) := by decide +kernel
theorem dX8_kindOf_1 : decode cX8_kindOf 1 = .ok (.bipush 102, 2) := by decide +kernel
theorem dX8_kindOf_3 : decode cX8_kindOf 3 = .ok (.if_icmp .ne 7, 3) := by decide +kernel
theorem dX8_kindOf_6 : decode cX8_kindOf 6 = .ok (.iconst 1, 1) := by decide +kernel
theorem dX8_kindOf_7 : decode cX8_kindOf 7 = .ok (.goto 44, 3) := by decide +kernel
theorem dX8_kindOf_10 : decode cX8_kindOf 10 = .ok (.iload_n 0, 1) := by decide +kernel
theorem dX8_kindOf_11 : decode cX8_kindOf 11 = .ok (.bipush 100, 2) := by decide +kernel
theorem dX8_kindOf_13 : decode cX8_kindOf 13 = .ok (.if_icmp .ne 7, 3) := by decide +kernel
theorem dX8_kindOf_16 : decode cX8_kindOf 16 = .ok (.iconst 2, 1) := by decide +kernel
theorem dX8_kindOf_17 : decode cX8_kindOf 17 = .ok (.goto 34, 3) := by decide +kernel
theorem dX8_kindOf_20 : decode cX8_kindOf 20 = .ok (.iload_n 0, 1) := by decide +kernel
theorem dX8_kindOf_21 : decode cX8_kindOf 21 = .ok (.bipush 99, 2) := by decide +kernel
theorem dX8_kindOf_23 : decode cX8_kindOf 23 = .ok (.if_icmp .ne 7, 3) := by decide +kernel
theorem dX8_kindOf_26 : decode cX8_kindOf 26 = .ok (.iconst 3, 1) := by decide +kernel
theorem dX8_kindOf_27 : decode cX8_kindOf 27 = .ok (.goto 24, 3) := by decide +kernel
theorem dX8_kindOf_30 : decode cX8_kindOf 30 = .ok (.iload_n 0, 1) := by decide +kernel
theorem dX8_kindOf_31 : decode cX8_kindOf 31 = .ok (.bipush 116, 2) := by decide +kernel
theorem dX8_kindOf_33 : decode cX8_kindOf 33 = .ok (.if_icmp .ne 7, 3) := by decide +kernel
theorem dX8_kindOf_36 : decode cX8_kindOf 36 = .ok (.iconst 4, 1) := by decide +kernel
theorem dX8_kindOf_37 : decode cX8_kindOf 37 = .ok (.goto 14, 3) := by decide +kernel
theorem dX8_kindOf_40 : decode cX8_kindOf 40 = .ok (.iload_n 0, 1) := by decide +kernel
theorem dX8_kindOf_41 : decode cX8_kindOf 41 = .ok (.bipush 114, 2) := by decide +kernel
theorem dX8_kindOf_43 : decode cX8_kindOf 43 = .ok (.if_icmp .ne 7, 3) := by decide +kernel
theorem dX8_kindOf_46 : decode cX8_kindOf 46 = .ok (.iconst 5, 1) := by decide +kernel
theorem dX8_kindOf_47 : decode cX8_kindOf 47 = .ok (.goto 4, 3) := by decide +kernel
theorem dX8_kindOf_50 : decode cX8_kindOf 50 = .ok (.iconst 0, 1) := by decide +kernel
theorem dX8_kindOf_51 : decode cX8_kindOf 51 = .ok (.ireturn, 1) := by decide +kernel
set_option maxRecDepth 20000 in
theorem ggX8_takesLaw_X8_takes : GoodIn wsX8_takesLaw wsX8_takes := goodIn_r _ [7, 8, 9, 10, 11, 6, 12, 13, 14, 15, 16, 17, 18, 19, 20, 31, 32, 33, 34, 35, 36, 37, 38, 39, 40, 41, 42, 43, 44, 45] (by decide +kernel) (by decide +kernel)
set_option maxRecDepth 20000 in
theorem gX8_takesLaw_X8_takes : GoodIn wsX8_takesLaw (wsV RX8 87 RX8 yX8_takes wsX8_takes) := goodIn_app (goodIn_of _ (by decide +kernel)) ggX8_takesLaw_X8_takes
set_option maxRecDepth 20000 in
theorem ggX8_takesLaw_X8_takesNumber : GoodIn wsX8_takesLaw wsX8_takesNumber := goodIn_r _ [24, 8, 2, 25, 26, 27, 9, 10, 11, 6, 12, 13, 14, 28, 29, 30, 15, 16, 17, 18, 19, 20, 31, 32, 33, 34, 35, 36, 37, 38, 39, 40, 41, 42, 43, 44, 45] (by decide +kernel) (by decide +kernel)
set_option maxRecDepth 20000 in
theorem gX8_takesLaw_X8_takesNumber : GoodIn wsX8_takesLaw (wsV RX8 90 RX8 yX8_takesNumber wsX8_takesNumber) := goodIn_app (goodIn_of _ (by decide +kernel)) ggX8_takesLaw_X8_takesNumber
theorem dX8_takesLaw_0 : decode cX8_takesLaw 0 = .ok (.aload_n 0, 1) := by decide +kernel
theorem dX8_takesLaw_1 : decode cX8_takesLaw 1 = .ok (.bipush 101, 2) := by decide +kernel
theorem dX8_takesLaw_3 : decode cX8_takesLaw 3 = .ok (.invokevirtual 87, 3) := by decide +kernel
theorem dX8_takesLaw_6 : decode cX8_takesLaw 6 = .ok (.ifCond .eq 13, 3) := by decide +kernel
theorem dX8_takesLaw_9 : decode cX8_takesLaw 9 = .ok (.aload_n 0, 1) := by decide +kernel
theorem dX8_takesLaw_10 : decode cX8_takesLaw 10 = .ok (.iconst 2, 1) := by decide +kernel
theorem dX8_takesLaw_11 : decode cX8_takesLaw 11 = .ok (.bipush 24, 2) := by decide +kernel
theorem dX8_takesLaw_13 : decode cX8_takesLaw 13 = .ok (.invokevirtual 90, 3) := by decide +kernel
theorem dX8_takesLaw_16 : decode cX8_takesLaw 16 = .ok (.ifCond .ne 5, 3) := by decide +kernel
theorem dX8_takesLaw_19 : decode cX8_takesLaw 19 = .ok (.iconst 0, 1) := by decide +kernel
theorem dX8_takesLaw_20 : decode cX8_takesLaw 20 = .ok (.ireturn, 1) := by decide +kernel
theorem dX8_takesLaw_21 : decode cX8_takesLaw 21 = .ok (.aload_n 0, 1) := by decide +kernel
theorem dX8_takesLaw_22 : decode cX8_takesLaw 22 = .ok (.getfield 7, 3) := by decide +kernel
theorem dX8_takesLaw_25 : decode cX8_takesLaw 25 = .ok (.sipush 221, 3) := by decide +kernel
theorem dX8_takesLaw_28 : decode cX8_takesLaw 28 = .ok (.aload_n 0, 1) := by decide +kernel
theorem dX8_takesLaw_29 : decode cX8_takesLaw 29 = .ok (.getfield 80, 3) := by decide +kernel
theorem dX8_takesLaw_32 : decode cX8_takesLaw 32 = .ok (.iastore, 1) := by decide +kernel
theorem dX8_takesLaw_33 : decode cX8_takesLaw 33 = .ok (.aload_n 0, 1) := by decide +kernel
theorem dX8_takesLaw_34 : decode cX8_takesLaw 34 = .ok (.bipush 44, 2) := by decide +kernel
theorem dX8_takesLaw_36 : decode cX8_takesLaw 36 = .ok (.invokevirtual 87, 3) := by decide +kernel
theorem dX8_takesLaw_39 : decode cX8_takesLaw 39 = .ok (.ifCond .eq 12, 3) := by decide +kernel
theorem dX8_takesLaw_42 : decode cX8_takesLaw 42 = .ok (.aload_n 0, 1) := by decide +kernel
theorem dX8_takesLaw_43 : decode cX8_takesLaw 43 = .ok (.iconst 0, 1) := by decide +kernel
theorem dX8_takesLaw_44 : decode cX8_takesLaw 44 = .ok (.iconst 3, 1) := by decide +kernel
theorem dX8_takesLaw_45 : decode cX8_takesLaw 45 = .ok (.invokevirtual 90, 3) := by decide +kernel
theorem dX8_takesLaw_48 : decode cX8_takesLaw 48 = .ok (.ifCond .ne 5, 3) := by decide +kernel
theorem dX8_takesLaw_51 : decode cX8_takesLaw 51 = .ok (.iconst 0, 1) := by decide +kernel
theorem dX8_takesLaw_52 : decode cX8_takesLaw 52 = .ok (.ireturn, 1) := by decide +kernel
theorem dX8_takesLaw_53 : decode cX8_takesLaw 53 = .ok (.aload_n 0, 1) := by decide +kernel
theorem dX8_takesLaw_54 : decode cX8_takesLaw 54 = .ok (.getfield 7, 3) := by decide +kernel
theorem dX8_takesLaw_57 : decode cX8_takesLaw 57 = .ok (.sipush 222, 3) := by decide +kernel
theorem dX8_takesLaw_60 : decode cX8_takesLaw 60 = .ok (.aload_n 0, 1) := by decide +kernel
theorem dX8_takesLaw_61 : decode cX8_takesLaw 61 = .ok (.getfield 80, 3) := by decide +kernel
theorem dX8_takesLaw_64 : decode cX8_takesLaw 64 = .ok (.iastore, 1) := by decide +kernel
theorem dX8_takesLaw_65 : decode cX8_takesLaw 65 = .ok (.aload_n 0, 1) := by decide +kernel
theorem dX8_takesLaw_66 : decode cX8_takesLaw 66 = .ok (.bipush 59, 2) := by decide +kernel
theorem dX8_takesLaw_68 : decode cX8_takesLaw 68 = .ok (.invokevirtual 87, 3) := by decide +kernel
theorem dX8_takesLaw_71 : decode cX8_takesLaw 71 = .ok (.ireturn, 1) := by decide +kernel
set_option maxRecDepth 20000 in
theorem ggX8_takesWindow_X8_here : GoodIn wsX8_takesWindow wsX8_here := goodIn_r _ [8, 2, 9, 10, 34, 35, 36, 37, 38, 39, 40, 41, 42, 43, 44, 45, 46, 47, 48] (by decide +kernel) (by decide +kernel)
set_option maxRecDepth 20000 in
theorem gX8_takesWindow_X8_here : GoodIn wsX8_takesWindow (wsV RX8 72 RX8 yX8_here wsX8_here) := goodIn_app (goodIn_of _ (by decide +kernel)) ggX8_takesWindow_X8_here
set_option maxRecDepth 20000 in
theorem ggX8_takesWindow_X8_kindOf : GoodIn wsX8_takesWindow wsX8_kindOf := goodIn_r _ [13] (by decide +kernel) (by decide +kernel)
set_option maxRecDepth 20000 in
theorem gX8_takesWindow_X8_kindOf : GoodIn wsX8_takesWindow (va_wsS RX8 93 yX8_kindOf wsX8_kindOf) := goodIn_app (goodIn_of _ (by decide +kernel)) ggX8_takesWindow_X8_kindOf
set_option maxRecDepth 20000 in
theorem ggX8_takesWindow_X8_fails : GoodIn wsX8_takesWindow wsX8_fails := goodIn_r _ [17, 18, 19, 34, 35, 36, 37, 38, 39, 40, 41, 42, 43, 44, 45, 46, 47, 48] (by decide +kernel) (by decide +kernel)
set_option maxRecDepth 20000 in
theorem gX8_takesWindow_X8_fails : GoodIn wsX8_takesWindow (wsV RX8 76 RX8 yX8_fails wsX8_fails) := goodIn_app (goodIn_of _ (by decide +kernel)) ggX8_takesWindow_X8_fails
set_option maxRecDepth 20000 in
theorem ggX8_takesWindow_X8_takesNumber : GoodIn wsX8_takesWindow wsX8_takesNumber := goodIn_r _ [23, 2, 3, 24, 25, 26, 4, 5, 6, 7, 8, 9, 10, 27, 28, 29, 14, 15, 16, 17, 18, 19, 34, 35, 36, 37, 38, 39, 40, 41, 42, 43, 44, 45, 46, 47, 48] (by decide +kernel) (by decide +kernel)
set_option maxRecDepth 20000 in
theorem gX8_takesWindow_X8_takesNumber : GoodIn wsX8_takesWindow (wsV RX8 90 RX8 yX8_takesNumber wsX8_takesNumber) := goodIn_app (goodIn_of _ (by decide +kernel)) ggX8_takesWindow_X8_takesNumber
set_option maxRecDepth 20000 in
theorem ggX8_takesWindow_X8_takes : GoodIn wsX8_takesWindow wsX8_takes := goodIn_r _ [33, 2, 4, 5, 6, 7, 8, 9, 10, 14, 15, 16, 17, 18, 19, 34, 35, 36, 37, 38, 39, 40, 41, 42, 43, 44, 45, 46, 47, 48] (by decide +kernel) (by decide +kernel)
set_option maxRecDepth 20000 in
theorem gX8_takesWindow_X8_takes : GoodIn wsX8_takesWindow (wsV RX8 87 RX8 yX8_takes wsX8_takes) := goodIn_app (goodIn_of _ (by decide +kernel)) ggX8_takesWindow_X8_takes
theorem dX8_takesWindow_0 : decode cX8_takesWindow 0 = .ok (.aload_n 0, 1) := by decide +kernel
theorem dX8_takesWindow_1 : decode cX8_takesWindow 1 = .ok (.getfield 7, 3) := by decide +kernel
theorem dX8_takesWindow_4 : decode cX8_takesWindow 4 = .ok (.sipush 220, 3) := by decide +kernel
theorem dX8_takesWindow_7 : decode cX8_takesWindow 7 = .ok (.iaload, 1) := by decide +kernel
theorem dX8_takesWindow_8 : decode cX8_takesWindow 8 = .ok (.istore_n 1, 1) := by decide +kernel
theorem dX8_takesWindow_9 : decode cX8_takesWindow 9 = .ok (.aload_n 0, 1) := by decide +kernel
theorem dX8_takesWindow_10 : decode cX8_takesWindow 10 = .ok (.invokevirtual 72, 3) := by decide +kernel
theorem dX8_takesWindow_13 : decode cX8_takesWindow 13 = .ok (.invokestatic 93, 3) := by decide +kernel
theorem dX8_takesWindow_16 : decode cX8_takesWindow 16 = .ok (.istore_n 2, 1) := by decide +kernel
theorem dX8_takesWindow_17 : decode cX8_takesWindow 17 = .ok (.iload_n 2, 1) := by decide +kernel
theorem dX8_takesWindow_18 : decode cX8_takesWindow 18 = .ok (.ifCond .ne 13, 3) := by decide +kernel
theorem dX8_takesWindow_21 : decode cX8_takesWindow 21 = .ok (.aload_n 0, 1) := by decide +kernel
theorem dX8_takesWindow_22 : decode cX8_takesWindow 22 = .ok (.iconst 1, 1) := by decide +kernel
theorem dX8_takesWindow_23 : decode cX8_takesWindow 23 = .ok (.aload_n 0, 1) := by decide +kernel
theorem dX8_takesWindow_24 : decode cX8_takesWindow 24 = .ok (.getfield 63, 3) := by decide +kernel
theorem dX8_takesWindow_27 : decode cX8_takesWindow 27 = .ok (.invokevirtual 76, 3) := by decide +kernel
theorem dX8_takesWindow_30 : decode cX8_takesWindow 30 = .ok (.ireturn, 1) := by decide +kernel
theorem dX8_takesWindow_31 : decode cX8_takesWindow 31 = .ok (.iload_n 1, 1) := by decide +kernel
theorem dX8_takesWindow_32 : decode cX8_takesWindow 32 = .ok (.bipush 10, 2) := by decide +kernel
theorem dX8_takesWindow_34 : decode cX8_takesWindow 34 = .ok (.if_icmp .ne 13, 3) := by decide +kernel
theorem dX8_takesWindow_37 : decode cX8_takesWindow 37 = .ok (.aload_n 0, 1) := by decide +kernel
theorem dX8_takesWindow_38 : decode cX8_takesWindow 38 = .ok (.iconst 3, 1) := by decide +kernel
theorem dX8_takesWindow_39 : decode cX8_takesWindow 39 = .ok (.aload_n 0, 1) := by decide +kernel
theorem dX8_takesWindow_40 : decode cX8_takesWindow 40 = .ok (.getfield 63, 3) := by decide +kernel
theorem dX8_takesWindow_43 : decode cX8_takesWindow 43 = .ok (.invokevirtual 76, 3) := by decide +kernel
theorem dX8_takesWindow_46 : decode cX8_takesWindow 46 = .ok (.ireturn, 1) := by decide +kernel
theorem dX8_takesWindow_47 : decode cX8_takesWindow 47 = .ok (.aload_n 0, 1) := by decide +kernel
theorem dX8_takesWindow_48 : decode cX8_takesWindow 48 = .ok (.dup, 1) := by decide +kernel
theorem dX8_takesWindow_49 : decode cX8_takesWindow 49 = .ok (.getfield 63, 3) := by decide +kernel
theorem dX8_takesWindow_52 : decode cX8_takesWindow 52 = .ok (.iconst 1, 1) := by decide +kernel
theorem dX8_takesWindow_53 : decode cX8_takesWindow 53 = .ok (.iadd, 1) := by decide +kernel
theorem dX8_takesWindow_54 : decode cX8_takesWindow 54 = .ok (.putfield 63, 3) := by decide +kernel
theorem dX8_takesWindow_57 : decode cX8_takesWindow 57 = .ok (.aload_n 0, 1) := by decide +kernel
theorem dX8_takesWindow_58 : decode cX8_takesWindow 58 = .ok (.getfield 7, 3) := by decide +kernel
theorem dX8_takesWindow_61 : decode cX8_takesWindow 61 = .ok (.sipush 225, 3) := by decide +kernel
theorem dX8_takesWindow_64 : decode cX8_takesWindow 64 = .ok (.iload_n 1, 1) := by decide +kernel
theorem dX8_takesWindow_65 : decode cX8_takesWindow 65 = .ok (.iadd, 1) := by decide +kernel
theorem dX8_takesWindow_66 : decode cX8_takesWindow 66 = .ok (.iload_n 2, 1) := by decide +kernel
theorem dX8_takesWindow_67 : decode cX8_takesWindow 67 = .ok (.iastore, 1) := by decide +kernel
theorem dX8_takesWindow_68 : decode cX8_takesWindow 68 = .ok (.aload_n 0, 1) := by decide +kernel
theorem dX8_takesWindow_69 : decode cX8_takesWindow 69 = .ok (.iconst 1, 1) := by decide +kernel
theorem dX8_takesWindow_70 : decode cX8_takesWindow 70 = .ok (.bipush 24, 2) := by decide +kernel
theorem dX8_takesWindow_72 : decode cX8_takesWindow 72 = .ok (.invokevirtual 90, 3) := by decide +kernel
theorem dX8_takesWindow_75 : decode cX8_takesWindow 75 = .ok (.ifCond .ne 5, 3) := by decide +kernel
theorem dX8_takesWindow_78 : decode cX8_takesWindow 78 = .ok (.iconst 0, 1) := by decide +kernel
theorem dX8_takesWindow_79 : decode cX8_takesWindow 79 = .ok (.ireturn, 1) := by decide +kernel
theorem dX8_takesWindow_80 : decode cX8_takesWindow 80 = .ok (.aload_n 0, 1) := by decide +kernel
theorem dX8_takesWindow_81 : decode cX8_takesWindow 81 = .ok (.getfield 7, 3) := by decide +kernel
theorem dX8_takesWindow_84 : decode cX8_takesWindow 84 = .ok (.sipush 245, 3) := by decide +kernel
theorem dX8_takesWindow_87 : decode cX8_takesWindow 87 = .ok (.iload_n 1, 1) := by decide +kernel
theorem dX8_takesWindow_88 : decode cX8_takesWindow 88 = .ok (.iadd, 1) := by decide +kernel
theorem dX8_takesWindow_89 : decode cX8_takesWindow 89 = .ok (.aload_n 0, 1) := by decide +kernel
theorem dX8_takesWindow_90 : decode cX8_takesWindow 90 = .ok (.getfield 80, 3) := by decide +kernel
theorem dX8_takesWindow_93 : decode cX8_takesWindow 93 = .ok (.iastore, 1) := by decide +kernel
theorem dX8_takesWindow_94 : decode cX8_takesWindow 94 = .ok (.aload_n 0, 1) := by decide +kernel
theorem dX8_takesWindow_95 : decode cX8_takesWindow 95 = .ok (.bipush 44, 2) := by decide +kernel
theorem dX8_takesWindow_97 : decode cX8_takesWindow 97 = .ok (.invokevirtual 87, 3) := by decide +kernel
theorem dX8_takesWindow_100 : decode cX8_takesWindow 100 = .ok (.ifCond .eq 13, 3) := by decide +kernel
theorem dX8_takesWindow_103 : decode cX8_takesWindow 103 = .ok (.aload_n 0, 1) := by decide +kernel
theorem dX8_takesWindow_104 : decode cX8_takesWindow 104 = .ok (.iconst 0, 1) := by decide +kernel
theorem dX8_takesWindow_105 : decode cX8_takesWindow 105 = .ok (.bipush 9, 2) := by decide +kernel
theorem dX8_takesWindow_107 : decode cX8_takesWindow 107 = .ok (.invokevirtual 90, 3) := by decide +kernel
theorem dX8_takesWindow_110 : decode cX8_takesWindow 110 = .ok (.ifCond .ne 5, 3) := by decide +kernel
theorem dX8_takesWindow_113 : decode cX8_takesWindow 113 = .ok (.iconst 0, 1) := by decide +kernel
theorem dX8_takesWindow_114 : decode cX8_takesWindow 114 = .ok (.ireturn, 1) := by decide +kernel
theorem dX8_takesWindow_115 : decode cX8_takesWindow 115 = .ok (.aload_n 0, 1) := by decide +kernel
theorem dX8_takesWindow_116 : decode cX8_takesWindow 116 = .ok (.getfield 7, 3) := by decide +kernel
theorem dX8_takesWindow_119 : decode cX8_takesWindow 119 = .ok (.sipush 235, 3) := by decide +kernel
theorem dX8_takesWindow_122 : decode cX8_takesWindow 122 = .ok (.iload_n 1, 1) := by decide +kernel
theorem dX8_takesWindow_123 : decode cX8_takesWindow 123 = .ok (.iadd, 1) := by decide +kernel
theorem dX8_takesWindow_124 : decode cX8_takesWindow 124 = .ok (.aload_n 0, 1) := by decide +kernel
theorem dX8_takesWindow_125 : decode cX8_takesWindow 125 = .ok (.getfield 80, 3) := by decide +kernel
theorem dX8_takesWindow_128 : decode cX8_takesWindow 128 = .ok (.iastore, 1) := by decide +kernel
theorem dX8_takesWindow_129 : decode cX8_takesWindow 129 = .ok (.aload_n 0, 1) := by decide +kernel
theorem dX8_takesWindow_130 : decode cX8_takesWindow 130 = .ok (.bipush 44, 2) := by decide +kernel
theorem dX8_takesWindow_132 : decode cX8_takesWindow 132 = .ok (.invokevirtual 87, 3) := by decide +kernel
theorem dX8_takesWindow_135 : decode cX8_takesWindow 135 = .ok (.ifCond .eq 13, 3) := by decide +kernel
theorem dX8_takesWindow_138 : decode cX8_takesWindow 138 = .ok (.aload_n 0, 1) := by decide +kernel
theorem dX8_takesWindow_139 : decode cX8_takesWindow 139 = .ok (.iconst 0, 1) := by decide +kernel
theorem dX8_takesWindow_140 : decode cX8_takesWindow 140 = .ok (.bipush 9, 2) := by decide +kernel
theorem dX8_takesWindow_142 : decode cX8_takesWindow 142 = .ok (.invokevirtual 90, 3) := by decide +kernel
theorem dX8_takesWindow_145 : decode cX8_takesWindow 145 = .ok (.ifCond .ne 5, 3) := by decide +kernel
theorem dX8_takesWindow_148 : decode cX8_takesWindow 148 = .ok (.iconst 0, 1) := by decide +kernel
theorem dX8_takesWindow_149 : decode cX8_takesWindow 149 = .ok (.ireturn, 1) := by decide +kernel
theorem dX8_takesWindow_150 : decode cX8_takesWindow 150 = .ok (.aload_n 0, 1) := by decide +kernel
theorem dX8_takesWindow_151 : decode cX8_takesWindow 151 = .ok (.getfield 7, 3) := by decide +kernel
theorem dX8_takesWindow_154 : decode cX8_takesWindow 154 = .ok (.sipush 255, 3) := by decide +kernel
theorem dX8_takesWindow_157 : decode cX8_takesWindow 157 = .ok (.iload_n 1, 1) := by decide +kernel
theorem dX8_takesWindow_158 : decode cX8_takesWindow 158 = .ok (.iadd, 1) := by decide +kernel
theorem dX8_takesWindow_159 : decode cX8_takesWindow 159 = .ok (.aload_n 0, 1) := by decide +kernel
theorem dX8_takesWindow_160 : decode cX8_takesWindow 160 = .ok (.getfield 80, 3) := by decide +kernel
theorem dX8_takesWindow_163 : decode cX8_takesWindow 163 = .ok (.iastore, 1) := by decide +kernel
theorem dX8_takesWindow_164 : decode cX8_takesWindow 164 = .ok (.aload_n 0, 1) := by decide +kernel
theorem dX8_takesWindow_165 : decode cX8_takesWindow 165 = .ok (.getfield 7, 3) := by decide +kernel
theorem dX8_takesWindow_168 : decode cX8_takesWindow 168 = .ok (.sipush 220, 3) := by decide +kernel
theorem dX8_takesWindow_171 : decode cX8_takesWindow 171 = .ok (.dup2, 1) := by decide +kernel
theorem dX8_takesWindow_172 : decode cX8_takesWindow 172 = .ok (.iaload, 1) := by decide +kernel
theorem dX8_takesWindow_173 : decode cX8_takesWindow 173 = .ok (.iconst 1, 1) := by decide +kernel
theorem dX8_takesWindow_174 : decode cX8_takesWindow 174 = .ok (.iadd, 1) := by decide +kernel
theorem dX8_takesWindow_175 : decode cX8_takesWindow 175 = .ok (.iastore, 1) := by decide +kernel
theorem dX8_takesWindow_176 : decode cX8_takesWindow 176 = .ok (.aload_n 0, 1) := by decide +kernel
theorem dX8_takesWindow_177 : decode cX8_takesWindow 177 = .ok (.bipush 59, 2) := by decide +kernel
theorem dX8_takesWindow_179 : decode cX8_takesWindow 179 = .ok (.invokevirtual 87, 3) := by decide +kernel
theorem dX8_takesWindow_182 : decode cX8_takesWindow 182 = .ok (.ireturn, 1) := by decide +kernel
set_option maxRecDepth 20000 in
theorem ggX8_takesAll_X8_takesLaw : GoodIn wsX8_takesAll wsX8_takesLaw := goodIn_r _ [8, 1, 9, 10, 11, 12, 7, 13, 2, 14, 15, 16, 17, 3, 18, 19, 20, 21, 22, 23, 24, 25, 26, 27, 28, 29, 30, 31, 32, 33, 34, 42, 43, 44, 45, 46, 47, 48, 49, 50, 51, 52, 53, 54, 55, 56] (by decide +kernel) (by decide +kernel)
set_option maxRecDepth 20000 in
theorem gX8_takesAll_X8_takesLaw : GoodIn wsX8_takesAll (wsV RX8 96 RX8 yX8_takesLaw wsX8_takesLaw) := goodIn_app (goodIn_of _ (by decide +kernel)) ggX8_takesAll_X8_takesLaw
set_option maxRecDepth 20000 in
theorem ggX8_takesAll_X8_takesWindow : GoodIn wsX8_takesAll wsX8_takesWindow := goodIn_r _ [38, 1, 2, 9, 14, 15, 16, 7, 17, 3, 18, 39, 40, 41, 19, 20, 21, 22, 23, 24, 25, 26, 27, 28, 29, 30, 31, 32, 33, 34, 10, 11, 12, 13, 42, 43, 44, 45, 46, 47, 48, 49, 50, 51, 52, 53, 54, 55, 56] (by decide +kernel) (by decide +kernel)
set_option maxRecDepth 20000 in
theorem gX8_takesAll_X8_takesWindow : GoodIn wsX8_takesAll (wsV RX8 100 RX8 yX8_takesWindow wsX8_takesWindow) := goodIn_app (goodIn_of _ (by decide +kernel)) ggX8_takesAll_X8_takesWindow
theorem dX8_takesAll_0 : decode cX8_takesAll 0 = .ok (.aload_n 0, 1) := by decide +kernel
theorem dX8_takesAll_1 : decode cX8_takesAll 1 = .ok (.invokevirtual 96, 3) := by decide +kernel
theorem dX8_takesAll_4 : decode cX8_takesAll 4 = .ok (.ifCond .ne 5, 3) := by decide +kernel
theorem dX8_takesAll_7 : decode cX8_takesAll 7 = .ok (.iconst 0, 1) := by decide +kernel
theorem dX8_takesAll_8 : decode cX8_takesAll 8 = .ok (.ireturn, 1) := by decide +kernel
theorem dX8_takesAll_9 : decode cX8_takesAll 9 = .ok (.aload_n 0, 1) := by decide +kernel
theorem dX8_takesAll_10 : decode cX8_takesAll 10 = .ok (.getfield 7, 3) := by decide +kernel
theorem dX8_takesAll_13 : decode cX8_takesAll 13 = .ok (.sipush 220, 3) := by decide +kernel
theorem dX8_takesAll_16 : decode cX8_takesAll 16 = .ok (.iaload, 1) := by decide +kernel
theorem dX8_takesAll_17 : decode cX8_takesAll 17 = .ok (.iconst 2, 1) := by decide +kernel
theorem dX8_takesAll_18 : decode cX8_takesAll 18 = .ok (.if_icmp .lt 14, 3) := by decide +kernel
theorem dX8_takesAll_21 : decode cX8_takesAll 21 = .ok (.aload_n 0, 1) := by decide +kernel
theorem dX8_takesAll_22 : decode cX8_takesAll 22 = .ok (.getfield 63, 3) := by decide +kernel
theorem dX8_takesAll_25 : decode cX8_takesAll 25 = .ok (.aload_n 0, 1) := by decide +kernel
theorem dX8_takesAll_26 : decode cX8_takesAll 26 = .ok (.getfield 59, 3) := by decide +kernel
theorem dX8_takesAll_29 : decode cX8_takesAll 29 = .ok (.if_icmp .ge 12, 3) := by decide +kernel
theorem dX8_takesAll_32 : decode cX8_takesAll 32 = .ok (.aload_n 0, 1) := by decide +kernel
theorem dX8_takesAll_33 : decode cX8_takesAll 33 = .ok (.invokevirtual 100, 3) := by decide +kernel
theorem dX8_takesAll_36 : decode cX8_takesAll 36 = .ok (.ifCond .ne (-27), 3) := by decide +kernel
theorem dX8_takesAll_39 : decode cX8_takesAll 39 = .ok (.iconst 0, 1) := by decide +kernel
theorem dX8_takesAll_40 : decode cX8_takesAll 40 = .ok (.ireturn, 1) := by decide +kernel
theorem dX8_takesAll_41 : decode cX8_takesAll 41 = .ok (.iconst 1, 1) := by decide +kernel
theorem dX8_takesAll_42 : decode cX8_takesAll 42 = .ok (.ireturn, 1) := by decide +kernel
set_option maxRecDepth 20000 in
theorem ggX8_street_X8_takesAll : GoodIn wsX8_street wsX8_takesAll := goodIn_r _ [11, 1, 2, 3, 12, 13, 14, 10, 15, 16, 17, 18, 19, 20, 21, 22, 23, 24, 25, 26, 27, 28, 29, 30, 5, 31, 32, 33, 34, 35, 36, 37, 38, 39, 40, 41, 42, 43, 44, 45, 46, 47, 52, 53, 54, 55, 56, 57, 58, 59, 60, 61, 62, 63, 64, 65, 66] (by decide +kernel) (by decide +kernel)
set_option maxRecDepth 20000 in
theorem gX8_street_X8_takesAll : GoodIn wsX8_street (wsV RX8 103 RX8 yX8_takesAll wsX8_takesAll) := goodIn_app (goodIn_of _ (by decide +kernel)) ggX8_street_X8_takesAll
set_option maxRecDepth 20000 in
theorem ggX8_street_X8_copyOf : GoodIn wsX8_street wsX8_copyOf := goodIn_r _ [51, 1, 52, 53, 54, 55, 56, 57, 58, 59, 60, 61, 62, 63, 64, 65, 66] (by decide +kernel) (by decide +kernel)
set_option maxRecDepth 20000 in
theorem gX8_street_X8_copyOf : GoodIn wsX8_street (wsV RX8 107 RX8 yX8_copyOf wsX8_copyOf) := goodIn_app (goodIn_of _ (by decide +kernel)) ggX8_street_X8_copyOf
theorem dX8_street_0 : decode cX8_street 0 = .ok (.iconst 0, 1) := by decide +kernel
theorem dX8_street_1 : decode cX8_street 1 = .ok (.istore_n 1, 1) := by decide +kernel
theorem dX8_street_2 : decode cX8_street 2 = .ok (.iload_n 1, 1) := by decide +kernel
theorem dX8_street_3 : decode cX8_street 3 = .ok (.bipush 55, 2) := by decide +kernel
theorem dX8_street_5 : decode cX8_street 5 = .ok (.if_icmp .ge 20, 3) := by decide +kernel
theorem dX8_street_8 : decode cX8_street 8 = .ok (.aload_n 0, 1) := by decide +kernel
theorem dX8_street_9 : decode cX8_street 9 = .ok (.getfield 7, 3) := by decide +kernel
theorem dX8_street_12 : decode cX8_street 12 = .ok (.sipush 220, 3) := by decide +kernel
theorem dX8_street_15 : decode cX8_street 15 = .ok (.iload_n 1, 1) := by decide +kernel
theorem dX8_street_16 : decode cX8_street 16 = .ok (.iadd, 1) := by decide +kernel
theorem dX8_street_17 : decode cX8_street 17 = .ok (.iconst 0, 1) := by decide +kernel
theorem dX8_street_18 : decode cX8_street 18 = .ok (.iastore, 1) := by decide +kernel
theorem dX8_street_19 : decode cX8_street 19 = .ok (.iinc 1 1, 3) := by decide +kernel
theorem dX8_street_22 : decode cX8_street 22 = .ok (.goto (-20), 3) := by decide +kernel
theorem dX8_street_25 : decode cX8_street 25 = .ok (.aload_n 0, 1) := by decide +kernel
theorem dX8_street_26 : decode cX8_street 26 = .ok (.iconst 0, 1) := by decide +kernel
theorem dX8_street_27 : decode cX8_street 27 = .ok (.putfield 63, 3) := by decide +kernel
theorem dX8_street_30 : decode cX8_street 30 = .ok (.aload_n 0, 1) := by decide +kernel
theorem dX8_street_31 : decode cX8_street 31 = .ok (.invokevirtual 103, 3) := by decide +kernel
theorem dX8_street_34 : decode cX8_street 34 = .ok (.istore_n 1, 1) := by decide +kernel
theorem dX8_street_35 : decode cX8_street 35 = .ok (.aload_n 0, 1) := by decide +kernel
theorem dX8_street_36 : decode cX8_street 36 = .ok (.iconst 0, 1) := by decide +kernel
theorem dX8_street_37 : decode cX8_street 37 = .ok (.putfield 59, 3) := by decide +kernel
theorem dX8_street_40 : decode cX8_street 40 = .ok (.iload_n 1, 1) := by decide +kernel
theorem dX8_street_41 : decode cX8_street 41 = .ok (.ifCond .ne 11, 3) := by decide +kernel
theorem dX8_street_44 : decode cX8_street 44 = .ok (.ldc 106, 2) := by decide +kernel
theorem dX8_street_46 : decode cX8_street 46 = .ok (.aload_n 0, 1) := by decide +kernel
theorem dX8_street_47 : decode cX8_street 47 = .ok (.getfield 69, 3) := by decide +kernel
theorem dX8_street_50 : decode cX8_street 50 = .ok (.isub, 1) := by decide +kernel
theorem dX8_street_51 : decode cX8_street 51 = .ok (.ireturn, 1) := by decide +kernel
theorem dX8_street_52 : decode cX8_street 52 = .ok (.aload_n 0, 1) := by decide +kernel
theorem dX8_street_53 : decode cX8_street 53 = .ok (.sipush 220, 3) := by decide +kernel
theorem dX8_street_56 : decode cX8_street 56 = .ok (.iconst 0, 1) := by decide +kernel
theorem dX8_street_57 : decode cX8_street 57 = .ok (.invokevirtual 107, 3) := by decide +kernel
theorem dX8_street_60 : decode cX8_street 60 = .ok (.aload_n 0, 1) := by decide +kernel
theorem dX8_street_61 : decode cX8_street 61 = .ok (.iconst 0, 1) := by decide +kernel
theorem dX8_street_62 : decode cX8_street 62 = .ok (.putfield 111, 3) := by decide +kernel
theorem dX8_street_65 : decode cX8_street 65 = .ok (.aload_n 0, 1) := by decide +kernel
theorem dX8_street_66 : decode cX8_street 66 = .ok (.getfield 7, 3) := by decide +kernel
theorem dX8_street_69 : decode cX8_street 69 = .ok (.iconst 0, 1) := by decide +kernel
theorem dX8_street_70 : decode cX8_street 70 = .ok (.iaload, 1) := by decide +kernel
theorem dX8_street_71 : decode cX8_street 71 = .ok (.ireturn, 1) := by decide +kernel
theorem dX8_fault_0 : decode cX8_fault 0 = .ok (.aload_n 0, 1) := by decide +kernel
theorem dX8_fault_1 : decode cX8_fault 1 = .ok (.getfield 66, 3) := by decide +kernel
theorem dX8_fault_4 : decode cX8_fault 4 = .ok (.ireturn, 1) := by decide +kernel
theorem dX8_dateOf_0 : decode cX8_dateOf 0 = .ok (.aload_n 0, 1) := by decide +kernel
theorem dX8_dateOf_1 : decode cX8_dateOf 1 = .ok (.getfield 7, 3) := by decide +kernel
theorem dX8_dateOf_4 : decode cX8_dateOf 4 = .ok (.iload_n 1, 1) := by decide +kernel
theorem dX8_dateOf_5 : decode cX8_dateOf 5 = .ok (.iconst 3, 1) := by decide +kernel
theorem dX8_dateOf_6 : decode cX8_dateOf 6 = .ok (.iadd, 1) := by decide +kernel
theorem dX8_dateOf_7 : decode cX8_dateOf 7 = .ok (.iaload, 1) := by decide +kernel
theorem dX8_dateOf_8 : decode cX8_dateOf 8 = .ok (.aload_n 0, 1) := by decide +kernel
theorem dX8_dateOf_9 : decode cX8_dateOf 9 = .ok (.getfield 7, 3) := by decide +kernel
theorem dX8_dateOf_12 : decode cX8_dateOf 12 = .ok (.iload_n 1, 1) := by decide +kernel
theorem dX8_dateOf_13 : decode cX8_dateOf 13 = .ok (.iconst 1, 1) := by decide +kernel
theorem dX8_dateOf_14 : decode cX8_dateOf 14 = .ok (.iadd, 1) := by decide +kernel
theorem dX8_dateOf_15 : decode cX8_dateOf 15 = .ok (.iaload, 1) := by decide +kernel
theorem dX8_dateOf_16 : decode cX8_dateOf 16 = .ok (.irem, 1) := by decide +kernel
theorem dX8_dateOf_17 : decode cX8_dateOf 17 = .ok (.iconst 1, 1) := by decide +kernel
theorem dX8_dateOf_18 : decode cX8_dateOf 18 = .ok (.iadd, 1) := by decide +kernel
theorem dX8_dateOf_19 : decode cX8_dateOf 19 = .ok (.ireturn, 1) := by decide +kernel
set_option maxRecDepth 20000 in
theorem ggX8_asTight_X8_dateOf : GoodIn wsX8_asTight wsX8_dateOf := goodIn_r _ [6, 1, 7, 8, 9, 10, 11, 12, 13, 14, 15, 16, 17, 18, 19, 20, 21] (by decide +kernel) (by decide +kernel)
set_option maxRecDepth 20000 in
theorem gX8_asTight_X8_dateOf : GoodIn wsX8_asTight (wsV RX8 114 RX8 yX8_dateOf wsX8_dateOf) := goodIn_app (goodIn_of _ (by decide +kernel)) ggX8_asTight_X8_dateOf
theorem dX8_asTight_0 : decode cX8_asTight 0 = .ok (.aload_n 0, 1) := by decide +kernel
theorem dX8_asTight_1 : decode cX8_asTight 1 = .ok (.iload_n 1, 1) := by decide +kernel
theorem dX8_asTight_2 : decode cX8_asTight 2 = .ok (.invokevirtual 114, 3) := by decide +kernel
theorem dX8_asTight_5 : decode cX8_asTight 5 = .ok (.aload_n 0, 1) := by decide +kernel
theorem dX8_asTight_6 : decode cX8_asTight 6 = .ok (.getfield 7, 3) := by decide +kernel
theorem dX8_asTight_9 : decode cX8_asTight 9 = .ok (.iload_n 1, 1) := by decide +kernel
theorem dX8_asTight_10 : decode cX8_asTight 10 = .ok (.bipush 25, 2) := by decide +kernel
theorem dX8_asTight_12 : decode cX8_asTight 12 = .ok (.iadd, 1) := by decide +kernel
theorem dX8_asTight_13 : decode cX8_asTight 13 = .ok (.iload_n 2, 1) := by decide +kernel
theorem dX8_asTight_14 : decode cX8_asTight 14 = .ok (.iadd, 1) := by decide +kernel
theorem dX8_asTight_15 : decode cX8_asTight 15 = .ok (.iaload, 1) := by decide +kernel
theorem dX8_asTight_16 : decode cX8_asTight 16 = .ok (.if_icmp .ne 22, 3) := by decide +kernel
theorem dX8_asTight_19 : decode cX8_asTight 19 = .ok (.aload_n 0, 1) := by decide +kernel
theorem dX8_asTight_20 : decode cX8_asTight 20 = .ok (.getfield 7, 3) := by decide +kernel
theorem dX8_asTight_23 : decode cX8_asTight 23 = .ok (.iload_n 1, 1) := by decide +kernel
theorem dX8_asTight_24 : decode cX8_asTight 24 = .ok (.bipush 35, 2) := by decide +kernel
theorem dX8_asTight_26 : decode cX8_asTight 26 = .ok (.iadd, 1) := by decide +kernel
theorem dX8_asTight_27 : decode cX8_asTight 27 = .ok (.iload_n 2, 1) := by decide +kernel
theorem dX8_asTight_28 : decode cX8_asTight 28 = .ok (.iadd, 1) := by decide +kernel
theorem dX8_asTight_29 : decode cX8_asTight 29 = .ok (.iaload, 1) := by decide +kernel
theorem dX8_asTight_30 : decode cX8_asTight 30 = .ok (.iconst 4, 1) := by decide +kernel
theorem dX8_asTight_31 : decode cX8_asTight 31 = .ok (.if_icmp .gt 7, 3) := by decide +kernel
theorem dX8_asTight_34 : decode cX8_asTight 34 = .ok (.iconst 1, 1) := by decide +kernel
theorem dX8_asTight_35 : decode cX8_asTight 35 = .ok (.goto 4, 3) := by decide +kernel
theorem dX8_asTight_38 : decode cX8_asTight 38 = .ok (.iconst 0, 1) := by decide +kernel
theorem dX8_asTight_39 : decode cX8_asTight 39 = .ok (.ireturn, 1) := by decide +kernel
set_option maxRecDepth 20000 in
theorem ggX8_would_X8_dateOf : GoodIn wsX8_would wsX8_dateOf := goodIn_r _ [6, 1, 14, 15, 16, 17, 18, 19, 20, 21, 22, 23, 24, 25, 26, 27, 28] (by decide +kernel) (by decide +kernel)
set_option maxRecDepth 20000 in
theorem gX8_would_X8_dateOf : GoodIn wsX8_would (wsV RX8 114 RX8 yX8_dateOf wsX8_dateOf) := goodIn_app (goodIn_of _ (by decide +kernel)) ggX8_would_X8_dateOf
set_option maxRecDepth 20000 in
theorem ggX8_would_X8_asTight : GoodIn wsX8_would wsX8_asTight := goodIn_r _ [10, 1, 2, 3, 4, 5, 6, 14, 15, 16, 17, 18, 19, 20, 21, 22, 23, 24, 25, 26, 27, 28] (by decide +kernel) (by decide +kernel)
set_option maxRecDepth 20000 in
theorem gX8_would_X8_asTight : GoodIn wsX8_would (wsV RX8 117 RX8 yX8_asTight wsX8_asTight) := goodIn_app (goodIn_of _ (by decide +kernel)) ggX8_would_X8_asTight
set_option maxRecDepth 20000 in
theorem ggX8_would_X8_has : GoodIn wsX8_would wsX8_has := goodIn_r _ [13] (by decide +kernel) (by decide +kernel)
set_option maxRecDepth 20000 in
theorem gX8_would_X8_has : GoodIn wsX8_would (va_wsS RX8 120 yX8_has wsX8_has) := goodIn_app (goodIn_of _ (by decide +kernel)) ggX8_would_X8_has
theorem dX8_would_0 : decode cX8_would 0 = .ok (.aload_n 0, 1) := by decide +kernel
theorem dX8_would_1 : decode cX8_would 1 = .ok (.iload_n 1, 1) := by decide +kernel
theorem dX8_would_2 : decode cX8_would 2 = .ok (.invokevirtual 114, 3) := by decide +kernel
theorem dX8_would_5 : decode cX8_would 5 = .ok (.istore_n 3, 1) := by decide +kernel
theorem dX8_would_6 : decode cX8_would 6 = .ok (.iload_n 3, 1) := by decide +kernel
theorem dX8_would_7 : decode cX8_would 7 = .ok (.aload_n 0, 1) := by decide +kernel
theorem dX8_would_8 : decode cX8_would 8 = .ok (.getfield 7, 3) := by decide +kernel
theorem dX8_would_11 : decode cX8_would 11 = .ok (.iload_n 1, 1) := by decide +kernel
theorem dX8_would_12 : decode cX8_would 12 = .ok (.bipush 25, 2) := by decide +kernel
theorem dX8_would_14 : decode cX8_would 14 = .ok (.iadd, 1) := by decide +kernel
theorem dX8_would_15 : decode cX8_would 15 = .ok (.iload_n 2, 1) := by decide +kernel
theorem dX8_would_16 : decode cX8_would 16 = .ok (.iadd, 1) := by decide +kernel
theorem dX8_would_17 : decode cX8_would 17 = .ok (.iaload, 1) := by decide +kernel
theorem dX8_would_18 : decode cX8_would 18 = .ok (.if_icmp .ne 7, 3) := by decide +kernel
theorem dX8_would_21 : decode cX8_would 21 = .ok (.iconst 1, 1) := by decide +kernel
theorem dX8_would_22 : decode cX8_would 22 = .ok (.goto 4, 3) := by decide +kernel
theorem dX8_would_25 : decode cX8_would 25 = .ok (.iconst 0, 1) := by decide +kernel
theorem dX8_would_26 : decode cX8_would 26 = .ok (.istore 4, 2) := by decide +kernel
theorem dX8_would_28 : decode cX8_would 28 = .ok (.aload_n 0, 1) := by decide +kernel
theorem dX8_would_29 : decode cX8_would 29 = .ok (.getfield 7, 3) := by decide +kernel
theorem dX8_would_32 : decode cX8_would 32 = .ok (.iload_n 1, 1) := by decide +kernel
theorem dX8_would_33 : decode cX8_would 33 = .ok (.iconst 5, 1) := by decide +kernel
theorem dX8_would_34 : decode cX8_would 34 = .ok (.iadd, 1) := by decide +kernel
theorem dX8_would_35 : decode cX8_would 35 = .ok (.iload_n 2, 1) := by decide +kernel
theorem dX8_would_36 : decode cX8_would 36 = .ok (.iadd, 1) := by decide +kernel
theorem dX8_would_37 : decode cX8_would 37 = .ok (.iaload, 1) := by decide +kernel
theorem dX8_would_38 : decode cX8_would 38 = .ok (.tableswitch 157 2 5 #[30, 58, 83, 90], 30) := by decide +kernel
theorem dX8_would_68 : decode cX8_would 68 = .ok (.iload 4, 2) := by decide +kernel
theorem dX8_would_70 : decode cX8_would 70 = .ok (.ifCond .ne 20, 3) := by decide +kernel
theorem dX8_would_73 : decode cX8_would 73 = .ok (.iload_n 3, 1) := by decide +kernel
theorem dX8_would_74 : decode cX8_would 74 = .ok (.aload_n 0, 1) := by decide +kernel
theorem dX8_would_75 : decode cX8_would 75 = .ok (.getfield 7, 3) := by decide +kernel
theorem dX8_would_78 : decode cX8_would 78 = .ok (.iload_n 1, 1) := by decide +kernel
theorem dX8_would_79 : decode cX8_would 79 = .ok (.bipush 25, 2) := by decide +kernel
theorem dX8_would_81 : decode cX8_would 81 = .ok (.iadd, 1) := by decide +kernel
theorem dX8_would_82 : decode cX8_would 82 = .ok (.iload_n 2, 1) := by decide +kernel
theorem dX8_would_83 : decode cX8_would 83 = .ok (.iadd, 1) := by decide +kernel
theorem dX8_would_84 : decode cX8_would 84 = .ok (.iaload, 1) := by decide +kernel
theorem dX8_would_85 : decode cX8_would 85 = .ok (.iconst 1, 1) := by decide +kernel
theorem dX8_would_86 : decode cX8_would 86 = .ok (.iadd, 1) := by decide +kernel
theorem dX8_would_87 : decode cX8_would 87 = .ok (.if_icmp .ne 7, 3) := by decide +kernel
theorem dX8_would_90 : decode cX8_would 90 = .ok (.iconst 1, 1) := by decide +kernel
theorem dX8_would_91 : decode cX8_would 91 = .ok (.goto 4, 3) := by decide +kernel
theorem dX8_would_94 : decode cX8_would 94 = .ok (.iconst 0, 1) := by decide +kernel
theorem dX8_would_95 : decode cX8_would 95 = .ok (.ireturn, 1) := by decide +kernel
theorem dX8_would_96 : decode cX8_would 96 = .ok (.iload 4, 2) := by decide +kernel
theorem dX8_would_98 : decode cX8_would 98 = .ok (.ifCond .ne 17, 3) := by decide +kernel
theorem dX8_would_101 : decode cX8_would 101 = .ok (.aload_n 0, 1) := by decide +kernel
theorem dX8_would_102 : decode cX8_would 102 = .ok (.getfield 7, 3) := by decide +kernel
theorem dX8_would_105 : decode cX8_would 105 = .ok (.iload_n 1, 1) := by decide +kernel
theorem dX8_would_106 : decode cX8_would 106 = .ok (.bipush 35, 2) := by decide +kernel
theorem dX8_would_108 : decode cX8_would 108 = .ok (.iadd, 1) := by decide +kernel
theorem dX8_would_109 : decode cX8_would 109 = .ok (.iload_n 2, 1) := by decide +kernel
theorem dX8_would_110 : decode cX8_would 110 = .ok (.iadd, 1) := by decide +kernel
theorem dX8_would_111 : decode cX8_would 111 = .ok (.iaload, 1) := by decide +kernel
theorem dX8_would_112 : decode cX8_would 112 = .ok (.ifCond .ne 7, 3) := by decide +kernel
theorem dX8_would_115 : decode cX8_would 115 = .ok (.iconst 1, 1) := by decide +kernel
theorem dX8_would_116 : decode cX8_would 116 = .ok (.goto 4, 3) := by decide +kernel
theorem dX8_would_119 : decode cX8_would 119 = .ok (.iconst 0, 1) := by decide +kernel
theorem dX8_would_120 : decode cX8_would 120 = .ok (.ireturn, 1) := by decide +kernel
theorem dX8_would_121 : decode cX8_would 121 = .ok (.aload_n 0, 1) := by decide +kernel
theorem dX8_would_122 : decode cX8_would 122 = .ok (.iload_n 1, 1) := by decide +kernel
theorem dX8_would_123 : decode cX8_would 123 = .ok (.iload_n 2, 1) := by decide +kernel
theorem dX8_would_124 : decode cX8_would 124 = .ok (.invokevirtual 117, 3) := by decide +kernel
theorem dX8_would_127 : decode cX8_would 127 = .ok (.ireturn, 1) := by decide +kernel
theorem dX8_would_128 : decode cX8_would 128 = .ok (.aload_n 0, 1) := by decide +kernel
theorem dX8_would_129 : decode cX8_would 129 = .ok (.iload_n 1, 1) := by decide +kernel
theorem dX8_would_130 : decode cX8_would 130 = .ok (.iload_n 2, 1) := by decide +kernel
theorem dX8_would_131 : decode cX8_would 131 = .ok (.invokevirtual 117, 3) := by decide +kernel
theorem dX8_would_134 : decode cX8_would 134 = .ok (.ifCond .ne 55, 3) := by decide +kernel
theorem dX8_would_137 : decode cX8_would 137 = .ok (.iload_n 2, 1) := by decide +kernel
theorem dX8_would_138 : decode cX8_would 138 = .ok (.ifCond .le 20, 3) := by decide +kernel
theorem dX8_would_141 : decode cX8_would 141 = .ok (.aload_n 0, 1) := by decide +kernel
theorem dX8_would_142 : decode cX8_would 142 = .ok (.getfield 7, 3) := by decide +kernel
theorem dX8_would_145 : decode cX8_would 145 = .ok (.iload_n 1, 1) := by decide +kernel
theorem dX8_would_146 : decode cX8_would 146 = .ok (.iconst 4, 1) := by decide +kernel
theorem dX8_would_147 : decode cX8_would 147 = .ok (.iadd, 1) := by decide +kernel
theorem dX8_would_148 : decode cX8_would 148 = .ok (.iaload, 1) := by decide +kernel
theorem dX8_would_149 : decode cX8_would 149 = .ok (.iload_n 2, 1) := by decide +kernel
theorem dX8_would_150 : decode cX8_would 150 = .ok (.iconst 1, 1) := by decide +kernel
theorem dX8_would_151 : decode cX8_would 151 = .ok (.isub, 1) := by decide +kernel
theorem dX8_would_152 : decode cX8_would 152 = .ok (.invokestatic 120, 3) := by decide +kernel
theorem dX8_would_155 : decode cX8_would 155 = .ok (.ifCond .ne 34, 3) := by decide +kernel
theorem dX8_would_158 : decode cX8_would 158 = .ok (.iload_n 2, 1) := by decide +kernel
theorem dX8_would_159 : decode cX8_would 159 = .ok (.iconst 1, 1) := by decide +kernel
theorem dX8_would_160 : decode cX8_would 160 = .ok (.iadd, 1) := by decide +kernel
theorem dX8_would_161 : decode cX8_would 161 = .ok (.aload_n 0, 1) := by decide +kernel
theorem dX8_would_162 : decode cX8_would 162 = .ok (.getfield 7, 3) := by decide +kernel
theorem dX8_would_165 : decode cX8_would 165 = .ok (.iload_n 1, 1) := by decide +kernel
theorem dX8_would_166 : decode cX8_would 166 = .ok (.iconst 0, 1) := by decide +kernel
theorem dX8_would_167 : decode cX8_would 167 = .ok (.iadd, 1) := by decide +kernel
theorem dX8_would_168 : decode cX8_would 168 = .ok (.iaload, 1) := by decide +kernel
theorem dX8_would_169 : decode cX8_would 169 = .ok (.if_icmp .ge 24, 3) := by decide +kernel
theorem dX8_would_172 : decode cX8_would 172 = .ok (.aload_n 0, 1) := by decide +kernel
theorem dX8_would_173 : decode cX8_would 173 = .ok (.getfield 7, 3) := by decide +kernel
theorem dX8_would_176 : decode cX8_would 176 = .ok (.iload_n 1, 1) := by decide +kernel
theorem dX8_would_177 : decode cX8_would 177 = .ok (.iconst 4, 1) := by decide +kernel
theorem dX8_would_178 : decode cX8_would 178 = .ok (.iadd, 1) := by decide +kernel
theorem dX8_would_179 : decode cX8_would 179 = .ok (.iaload, 1) := by decide +kernel
theorem dX8_would_180 : decode cX8_would 180 = .ok (.iload_n 2, 1) := by decide +kernel
theorem dX8_would_181 : decode cX8_would 181 = .ok (.iconst 1, 1) := by decide +kernel
theorem dX8_would_182 : decode cX8_would 182 = .ok (.iadd, 1) := by decide +kernel
theorem dX8_would_183 : decode cX8_would 183 = .ok (.invokestatic 120, 3) := by decide +kernel
theorem dX8_would_186 : decode cX8_would 186 = .ok (.ifCond .eq 7, 3) := by decide +kernel
theorem dX8_would_189 : decode cX8_would 189 = .ok (.iconst 1, 1) := by decide +kernel
theorem dX8_would_190 : decode cX8_would 190 = .ok (.goto 4, 3) := by decide +kernel
theorem dX8_would_193 : decode cX8_would 193 = .ok (.iconst 0, 1) := by decide +kernel
theorem dX8_would_194 : decode cX8_would 194 = .ok (.ireturn, 1) := by decide +kernel
theorem dX8_would_195 : decode cX8_would 195 = .ok (.iload 4, 2) := by decide +kernel
theorem dX8_would_197 : decode cX8_would 197 = .ok (.ireturn, 1) := by decide +kernel
set_option maxRecDepth 20000 in
theorem ggX8_wears_X8_has : GoodIn wsX8_wears wsX8_has := goodIn_r _ [5] (by decide +kernel) (by decide +kernel)
set_option maxRecDepth 20000 in
theorem gX8_wears_X8_has : GoodIn wsX8_wears (va_wsS RX8 120 yX8_has wsX8_has) := goodIn_app (goodIn_of _ (by decide +kernel)) ggX8_wears_X8_has
theorem dX8_wears_0 : decode cX8_wears 0 = .ok (.iconst 0, 1) := by decide +kernel
theorem dX8_wears_1 : decode cX8_wears 1 = .ok (.istore_n 3, 1) := by decide +kernel
theorem dX8_wears_2 : decode cX8_wears 2 = .ok (.iload_n 3, 1) := by decide +kernel
theorem dX8_wears_3 : decode cX8_wears 3 = .ok (.aload_n 0, 1) := by decide +kernel
theorem dX8_wears_4 : decode cX8_wears 4 = .ok (.getfield 7, 3) := by decide +kernel
theorem dX8_wears_7 : decode cX8_wears 7 = .ok (.iload_n 1, 1) := by decide +kernel
theorem dX8_wears_8 : decode cX8_wears 8 = .ok (.iconst 0, 1) := by decide +kernel
theorem dX8_wears_9 : decode cX8_wears 9 = .ok (.iadd, 1) := by decide +kernel
theorem dX8_wears_10 : decode cX8_wears 10 = .ok (.iaload, 1) := by decide +kernel
theorem dX8_wears_11 : decode cX8_wears 11 = .ok (.if_icmp .ge 50, 3) := by decide +kernel
theorem dX8_wears_14 : decode cX8_wears 14 = .ok (.aload_n 0, 1) := by decide +kernel
theorem dX8_wears_15 : decode cX8_wears 15 = .ok (.getfield 7, 3) := by decide +kernel
theorem dX8_wears_18 : decode cX8_wears 18 = .ok (.iload_n 1, 1) := by decide +kernel
theorem dX8_wears_19 : decode cX8_wears 19 = .ok (.bipush 35, 2) := by decide +kernel
theorem dX8_wears_21 : decode cX8_wears 21 = .ok (.iadd, 1) := by decide +kernel
theorem dX8_wears_22 : decode cX8_wears 22 = .ok (.iload_n 3, 1) := by decide +kernel
theorem dX8_wears_23 : decode cX8_wears 23 = .ok (.iadd, 1) := by decide +kernel
theorem dX8_wears_24 : decode cX8_wears 24 = .ok (.dup2, 1) := by decide +kernel
theorem dX8_wears_25 : decode cX8_wears 25 = .ok (.iaload, 1) := by decide +kernel
theorem dX8_wears_26 : decode cX8_wears 26 = .ok (.iload_n 2, 1) := by decide +kernel
theorem dX8_wears_27 : decode cX8_wears 27 = .ok (.iload_n 3, 1) := by decide +kernel
theorem dX8_wears_28 : decode cX8_wears 28 = .ok (.invokestatic 120, 3) := by decide +kernel
theorem dX8_wears_31 : decode cX8_wears 31 = .ok (.ifCond .eq 21, 3) := by decide +kernel
theorem dX8_wears_34 : decode cX8_wears 34 = .ok (.aload_n 0, 1) := by decide +kernel
theorem dX8_wears_35 : decode cX8_wears 35 = .ok (.getfield 7, 3) := by decide +kernel
theorem dX8_wears_38 : decode cX8_wears 38 = .ok (.iload_n 1, 1) := by decide +kernel
theorem dX8_wears_39 : decode cX8_wears 39 = .ok (.bipush 35, 2) := by decide +kernel
theorem dX8_wears_41 : decode cX8_wears 41 = .ok (.iadd, 1) := by decide +kernel
theorem dX8_wears_42 : decode cX8_wears 42 = .ok (.iload_n 3, 1) := by decide +kernel
theorem dX8_wears_43 : decode cX8_wears 43 = .ok (.iadd, 1) := by decide +kernel
theorem dX8_wears_44 : decode cX8_wears 44 = .ok (.iaload, 1) := by decide +kernel
theorem dX8_wears_45 : decode cX8_wears 45 = .ok (.ifCond .le 7, 3) := by decide +kernel
theorem dX8_wears_48 : decode cX8_wears 48 = .ok (.iconst 1, 1) := by decide +kernel
theorem dX8_wears_49 : decode cX8_wears 49 = .ok (.goto 4, 3) := by decide +kernel
theorem dX8_wears_52 : decode cX8_wears 52 = .ok (.iconst 0, 1) := by decide +kernel
theorem dX8_wears_53 : decode cX8_wears 53 = .ok (.isub, 1) := by decide +kernel
theorem dX8_wears_54 : decode cX8_wears 54 = .ok (.iastore, 1) := by decide +kernel
theorem dX8_wears_55 : decode cX8_wears 55 = .ok (.iinc 3 1, 3) := by decide +kernel
theorem dX8_wears_58 : decode cX8_wears 58 = .ok (.goto (-56), 3) := by decide +kernel
theorem dX8_wears_61 : decode cX8_wears 61 = .ok (.return_, 1) := by decide +kernel
theorem dX8_gap_0 : decode cX8_gap 0 = .ok (.iload_n 0, 1) := by decide +kernel
theorem dX8_gap_1 : decode cX8_gap 1 = .ok (.iload_n 1, 1) := by decide +kernel
theorem dX8_gap_2 : decode cX8_gap 2 = .ok (.if_icmp .ge 9, 3) := by decide +kernel
theorem dX8_gap_5 : decode cX8_gap 5 = .ok (.iload_n 1, 1) := by decide +kernel
theorem dX8_gap_6 : decode cX8_gap 6 = .ok (.iload_n 0, 1) := by decide +kernel
theorem dX8_gap_7 : decode cX8_gap 7 = .ok (.isub, 1) := by decide +kernel
theorem dX8_gap_8 : decode cX8_gap 8 = .ok (.goto 6, 3) := by decide +kernel
theorem dX8_gap_11 : decode cX8_gap 11 = .ok (.iload_n 0, 1) := by decide +kernel
theorem dX8_gap_12 : decode cX8_gap 12 = .ok (.iload_n 1, 1) := by decide +kernel
theorem dX8_gap_13 : decode cX8_gap 13 = .ok (.isub, 1) := by decide +kernel
theorem dX8_gap_14 : decode cX8_gap 14 = .ok (.ireturn, 1) := by decide +kernel
set_option maxRecDepth 20000 in
theorem ggX8_looks_X8_gap : GoodIn wsX8_looks wsX8_gap := goodIn_r _ [5] (by decide +kernel) (by decide +kernel)
set_option maxRecDepth 20000 in
theorem gX8_looks_X8_gap : GoodIn wsX8_looks (va_wsS RX8 123 yX8_gap wsX8_gap) := goodIn_app (goodIn_of _ (by decide +kernel)) ggX8_looks_X8_gap
set_option maxRecDepth 20000 in
theorem ggX8_looks_X8_has : GoodIn wsX8_looks wsX8_has := goodIn_r _ [8] (by decide +kernel) (by decide +kernel)
set_option maxRecDepth 20000 in
theorem gX8_looks_X8_has : GoodIn wsX8_looks (va_wsS RX8 120 yX8_has wsX8_has) := goodIn_app (goodIn_of _ (by decide +kernel)) ggX8_looks_X8_has
theorem dX8_looks_0 : decode cX8_looks 0 = .ok (.iconst 0, 1) := by decide +kernel
theorem dX8_looks_1 : decode cX8_looks 1 = .ok (.istore_n 2, 1) := by decide +kernel
theorem dX8_looks_2 : decode cX8_looks 2 = .ok (.iload_n 2, 1) := by decide +kernel
theorem dX8_looks_3 : decode cX8_looks 3 = .ok (.aload_n 0, 1) := by decide +kernel
theorem dX8_looks_4 : decode cX8_looks 4 = .ok (.getfield 7, 3) := by decide +kernel
theorem dX8_looks_7 : decode cX8_looks 7 = .ok (.iload_n 1, 1) := by decide +kernel
theorem dX8_looks_8 : decode cX8_looks 8 = .ok (.iconst 0, 1) := by decide +kernel
theorem dX8_looks_9 : decode cX8_looks 9 = .ok (.iadd, 1) := by decide +kernel
theorem dX8_looks_10 : decode cX8_looks 10 = .ok (.iaload, 1) := by decide +kernel
theorem dX8_looks_11 : decode cX8_looks 11 = .ok (.if_icmp .ge 108, 3) := by decide +kernel
theorem dX8_looks_14 : decode cX8_looks 14 = .ok (.iconst 0, 1) := by decide +kernel
theorem dX8_looks_15 : decode cX8_looks 15 = .ok (.istore_n 3, 1) := by decide +kernel
theorem dX8_looks_16 : decode cX8_looks 16 = .ok (.iload_n 3, 1) := by decide +kernel
theorem dX8_looks_17 : decode cX8_looks 17 = .ok (.aload_n 0, 1) := by decide +kernel
theorem dX8_looks_18 : decode cX8_looks 18 = .ok (.getfield 7, 3) := by decide +kernel
theorem dX8_looks_21 : decode cX8_looks 21 = .ok (.iload_n 1, 1) := by decide +kernel
theorem dX8_looks_22 : decode cX8_looks 22 = .ok (.iconst 0, 1) := by decide +kernel
theorem dX8_looks_23 : decode cX8_looks 23 = .ok (.iadd, 1) := by decide +kernel
theorem dX8_looks_24 : decode cX8_looks 24 = .ok (.iaload, 1) := by decide +kernel
theorem dX8_looks_25 : decode cX8_looks 25 = .ok (.if_icmp .ge 88, 3) := by decide +kernel
theorem dX8_looks_28 : decode cX8_looks 28 = .ok (.iload_n 3, 1) := by decide +kernel
theorem dX8_looks_29 : decode cX8_looks 29 = .ok (.iload_n 2, 1) := by decide +kernel
theorem dX8_looks_30 : decode cX8_looks 30 = .ok (.if_icmp .eq 38, 3) := by decide +kernel
theorem dX8_looks_33 : decode cX8_looks 33 = .ok (.iload_n 3, 1) := by decide +kernel
theorem dX8_looks_34 : decode cX8_looks 34 = .ok (.iload_n 2, 1) := by decide +kernel
theorem dX8_looks_35 : decode cX8_looks 35 = .ok (.invokestatic 123, 3) := by decide +kernel
theorem dX8_looks_38 : decode cX8_looks 38 = .ok (.aload_n 0, 1) := by decide +kernel
theorem dX8_looks_39 : decode cX8_looks 39 = .ok (.getfield 7, 3) := by decide +kernel
theorem dX8_looks_42 : decode cX8_looks 42 = .ok (.iload_n 1, 1) := by decide +kernel
theorem dX8_looks_43 : decode cX8_looks 43 = .ok (.iconst 2, 1) := by decide +kernel
theorem dX8_looks_44 : decode cX8_looks 44 = .ok (.iadd, 1) := by decide +kernel
theorem dX8_looks_45 : decode cX8_looks 45 = .ok (.iaload, 1) := by decide +kernel
theorem dX8_looks_46 : decode cX8_looks 46 = .ok (.if_icmp .gt 22, 3) := by decide +kernel
theorem dX8_looks_49 : decode cX8_looks 49 = .ok (.aload_n 0, 1) := by decide +kernel
theorem dX8_looks_50 : decode cX8_looks 50 = .ok (.getfield 7, 3) := by decide +kernel
theorem dX8_looks_53 : decode cX8_looks 53 = .ok (.iload_n 1, 1) := by decide +kernel
theorem dX8_looks_54 : decode cX8_looks 54 = .ok (.iconst 4, 1) := by decide +kernel
theorem dX8_looks_55 : decode cX8_looks 55 = .ok (.iadd, 1) := by decide +kernel
theorem dX8_looks_56 : decode cX8_looks 56 = .ok (.iaload, 1) := by decide +kernel
theorem dX8_looks_57 : decode cX8_looks 57 = .ok (.iload_n 3, 1) := by decide +kernel
theorem dX8_looks_58 : decode cX8_looks 58 = .ok (.invokestatic 120, 3) := by decide +kernel
theorem dX8_looks_61 : decode cX8_looks 61 = .ok (.ifCond .eq 7, 3) := by decide +kernel
theorem dX8_looks_64 : decode cX8_looks 64 = .ok (.iconst 1, 1) := by decide +kernel
theorem dX8_looks_65 : decode cX8_looks 65 = .ok (.goto 4, 3) := by decide +kernel
theorem dX8_looks_68 : decode cX8_looks 68 = .ok (.iconst 0, 1) := by decide +kernel
theorem dX8_looks_69 : decode cX8_looks 69 = .ok (.istore 4, 2) := by decide +kernel
theorem dX8_looks_71 : decode cX8_looks 71 = .ok (.aload_n 0, 1) := by decide +kernel
theorem dX8_looks_72 : decode cX8_looks 72 = .ok (.getfield 7, 3) := by decide +kernel
theorem dX8_looks_75 : decode cX8_looks 75 = .ok (.iload_n 1, 1) := by decide +kernel
theorem dX8_looks_76 : decode cX8_looks 76 = .ok (.bipush 45, 2) := by decide +kernel
theorem dX8_looks_78 : decode cX8_looks 78 = .ok (.iadd, 1) := by decide +kernel
theorem dX8_looks_79 : decode cX8_looks 79 = .ok (.iload_n 2, 1) := by decide +kernel
theorem dX8_looks_80 : decode cX8_looks 80 = .ok (.iadd, 1) := by decide +kernel
theorem dX8_looks_81 : decode cX8_looks 81 = .ok (.dup2, 1) := by decide +kernel
theorem dX8_looks_82 : decode cX8_looks 82 = .ok (.iaload, 1) := by decide +kernel
theorem dX8_looks_83 : decode cX8_looks 83 = .ok (.iload 4, 2) := by decide +kernel
theorem dX8_looks_85 : decode cX8_looks 85 = .ok (.ifCond .eq 19, 3) := by decide +kernel
theorem dX8_looks_88 : decode cX8_looks 88 = .ok (.iconst 1, 1) := by decide +kernel
theorem dX8_looks_89 : decode cX8_looks 89 = .ok (.aload_n 0, 1) := by decide +kernel
theorem dX8_looks_90 : decode cX8_looks 90 = .ok (.getfield 7, 3) := by decide +kernel
theorem dX8_looks_93 : decode cX8_looks 93 = .ok (.iload_n 1, 1) := by decide +kernel
theorem dX8_looks_94 : decode cX8_looks 94 = .ok (.bipush 15, 2) := by decide +kernel
theorem dX8_looks_96 : decode cX8_looks 96 = .ok (.iadd, 1) := by decide +kernel
theorem dX8_looks_97 : decode cX8_looks 97 = .ok (.iload_n 3, 1) := by decide +kernel
theorem dX8_looks_98 : decode cX8_looks 98 = .ok (.iadd, 1) := by decide +kernel
theorem dX8_looks_99 : decode cX8_looks 99 = .ok (.iaload, 1) := by decide +kernel
theorem dX8_looks_100 : decode cX8_looks 100 = .ok (.ishl, 1) := by decide +kernel
theorem dX8_looks_101 : decode cX8_looks 101 = .ok (.goto 4, 3) := by decide +kernel
theorem dX8_looks_104 : decode cX8_looks 104 = .ok (.iconst 0, 1) := by decide +kernel
theorem dX8_looks_105 : decode cX8_looks 105 = .ok (.ior, 1) := by decide +kernel
theorem dX8_looks_106 : decode cX8_looks 106 = .ok (.iastore, 1) := by decide +kernel
theorem dX8_looks_107 : decode cX8_looks 107 = .ok (.iinc 3 1, 3) := by decide +kernel
theorem dX8_looks_110 : decode cX8_looks 110 = .ok (.goto (-94), 3) := by decide +kernel
theorem dX8_looks_113 : decode cX8_looks 113 = .ok (.iinc 2 1, 3) := by decide +kernel
theorem dX8_looks_116 : decode cX8_looks 116 = .ok (.goto (-114), 3) := by decide +kernel
theorem dX8_looks_119 : decode cX8_looks 119 = .ok (.return_, 1) := by decide +kernel
set_option maxRecDepth 20000 in
theorem ggX8_passes_X8_has : GoodIn wsX8_passes wsX8_has := goodIn_r _ [5] (by decide +kernel) (by decide +kernel)
set_option maxRecDepth 20000 in
theorem gX8_passes_X8_has : GoodIn wsX8_passes (va_wsS RX8 120 yX8_has wsX8_has) := goodIn_app (goodIn_of _ (by decide +kernel)) ggX8_passes_X8_has
set_option maxRecDepth 20000 in
theorem ggX8_passes_X8_would : GoodIn wsX8_passes wsX8_would := goodIn_r _ [9, 1, 10, 11, 12, 4, 13, 14, 15, 16, 17, 2, 3, 5, 29, 30, 31, 32, 33, 34, 35, 36, 37, 38, 39, 40, 41, 42, 43] (by decide +kernel) (by decide +kernel)
set_option maxRecDepth 20000 in
theorem gX8_passes_X8_would : GoodIn wsX8_passes (wsV RX8 127 RX8 yX8_would wsX8_would) := goodIn_app (goodIn_of _ (by decide +kernel)) ggX8_passes_X8_would
set_option maxRecDepth 20000 in
theorem ggX8_passes_X8_looks : GoodIn wsX8_passes wsX8_looks := goodIn_r _ [21, 1, 22, 23, 4, 24, 2, 3, 5, 29, 30, 31, 32, 33, 34, 35, 36, 37, 38, 39, 40, 41, 42, 43] (by decide +kernel) (by decide +kernel)
set_option maxRecDepth 20000 in
theorem gX8_passes_X8_looks : GoodIn wsX8_passes (wsV RX8 130 RX8 yX8_looks wsX8_looks) := goodIn_app (goodIn_of _ (by decide +kernel)) ggX8_passes_X8_looks
set_option maxRecDepth 20000 in
theorem ggX8_passes_X8_dateOf : GoodIn wsX8_passes wsX8_dateOf := goodIn_r _ [13, 1, 29, 30, 31, 32, 33, 34, 35, 36, 37, 38, 39, 40, 41, 42, 43] (by decide +kernel) (by decide +kernel)
set_option maxRecDepth 20000 in
theorem gX8_passes_X8_dateOf : GoodIn wsX8_passes (wsV RX8 114 RX8 yX8_dateOf wsX8_dateOf) := goodIn_app (goodIn_of _ (by decide +kernel)) ggX8_passes_X8_dateOf
set_option maxRecDepth 20000 in
theorem ggX8_passes_X8_wears : GoodIn wsX8_passes wsX8_wears := goodIn_r _ [28, 1, 2, 3, 4, 5, 29, 30, 31, 32, 33, 34, 35, 36, 37, 38, 39, 40, 41, 42, 43] (by decide +kernel) (by decide +kernel)
set_option maxRecDepth 20000 in
theorem gX8_passes_X8_wears : GoodIn wsX8_passes (wsV RX8 134 RX8 yX8_wears wsX8_wears) := goodIn_app (goodIn_of _ (by decide +kernel)) ggX8_passes_X8_wears
theorem dX8_passes_0 : decode cX8_passes 0 = .ok (.iconst 0, 1) := by decide +kernel
theorem dX8_passes_1 : decode cX8_passes 1 = .ok (.istore_n 2, 1) := by decide +kernel
theorem dX8_passes_2 : decode cX8_passes 2 = .ok (.iconst 0, 1) := by decide +kernel
theorem dX8_passes_3 : decode cX8_passes 3 = .ok (.istore_n 3, 1) := by decide +kernel
theorem dX8_passes_4 : decode cX8_passes 4 = .ok (.iload_n 3, 1) := by decide +kernel
theorem dX8_passes_5 : decode cX8_passes 5 = .ok (.aload_n 0, 1) := by decide +kernel
theorem dX8_passes_6 : decode cX8_passes 6 = .ok (.getfield 7, 3) := by decide +kernel
theorem dX8_passes_9 : decode cX8_passes 9 = .ok (.iload_n 1, 1) := by decide +kernel
theorem dX8_passes_10 : decode cX8_passes 10 = .ok (.iconst 0, 1) := by decide +kernel
theorem dX8_passes_11 : decode cX8_passes 11 = .ok (.iadd, 1) := by decide +kernel
theorem dX8_passes_12 : decode cX8_passes 12 = .ok (.iaload, 1) := by decide +kernel
theorem dX8_passes_13 : decode cX8_passes 13 = .ok (.if_icmp .ge 43, 3) := by decide +kernel
theorem dX8_passes_16 : decode cX8_passes 16 = .ok (.iload_n 2, 1) := by decide +kernel
theorem dX8_passes_17 : decode cX8_passes 17 = .ok (.aload_n 0, 1) := by decide +kernel
theorem dX8_passes_18 : decode cX8_passes 18 = .ok (.getfield 7, 3) := by decide +kernel
theorem dX8_passes_21 : decode cX8_passes 21 = .ok (.iload_n 1, 1) := by decide +kernel
theorem dX8_passes_22 : decode cX8_passes 22 = .ok (.iconst 4, 1) := by decide +kernel
theorem dX8_passes_23 : decode cX8_passes 23 = .ok (.iadd, 1) := by decide +kernel
theorem dX8_passes_24 : decode cX8_passes 24 = .ok (.iaload, 1) := by decide +kernel
theorem dX8_passes_25 : decode cX8_passes 25 = .ok (.iload_n 3, 1) := by decide +kernel
theorem dX8_passes_26 : decode cX8_passes 26 = .ok (.invokestatic 120, 3) := by decide +kernel
theorem dX8_passes_29 : decode cX8_passes 29 = .ok (.ifCond .ne 18, 3) := by decide +kernel
theorem dX8_passes_32 : decode cX8_passes 32 = .ok (.aload_n 0, 1) := by decide +kernel
theorem dX8_passes_33 : decode cX8_passes 33 = .ok (.iload_n 1, 1) := by decide +kernel
theorem dX8_passes_34 : decode cX8_passes 34 = .ok (.iload_n 3, 1) := by decide +kernel
theorem dX8_passes_35 : decode cX8_passes 35 = .ok (.invokevirtual 127, 3) := by decide +kernel
theorem dX8_passes_38 : decode cX8_passes 38 = .ok (.ifCond .eq 9, 3) := by decide +kernel
theorem dX8_passes_41 : decode cX8_passes 41 = .ok (.iconst 1, 1) := by decide +kernel
theorem dX8_passes_42 : decode cX8_passes 42 = .ok (.iload_n 3, 1) := by decide +kernel
theorem dX8_passes_43 : decode cX8_passes 43 = .ok (.ishl, 1) := by decide +kernel
theorem dX8_passes_44 : decode cX8_passes 44 = .ok (.goto 4, 3) := by decide +kernel
theorem dX8_passes_47 : decode cX8_passes 47 = .ok (.iconst 0, 1) := by decide +kernel
theorem dX8_passes_48 : decode cX8_passes 48 = .ok (.ior, 1) := by decide +kernel
theorem dX8_passes_49 : decode cX8_passes 49 = .ok (.istore_n 2, 1) := by decide +kernel
theorem dX8_passes_50 : decode cX8_passes 50 = .ok (.iinc 3 1, 3) := by decide +kernel
theorem dX8_passes_53 : decode cX8_passes 53 = .ok (.goto (-49), 3) := by decide +kernel
theorem dX8_passes_56 : decode cX8_passes 56 = .ok (.aload_n 0, 1) := by decide +kernel
theorem dX8_passes_57 : decode cX8_passes 57 = .ok (.getfield 7, 3) := by decide +kernel
theorem dX8_passes_60 : decode cX8_passes 60 = .ok (.iload_n 1, 1) := by decide +kernel
theorem dX8_passes_61 : decode cX8_passes 61 = .ok (.iconst 4, 1) := by decide +kernel
theorem dX8_passes_62 : decode cX8_passes 62 = .ok (.iadd, 1) := by decide +kernel
theorem dX8_passes_63 : decode cX8_passes 63 = .ok (.dup2, 1) := by decide +kernel
theorem dX8_passes_64 : decode cX8_passes 64 = .ok (.iaload, 1) := by decide +kernel
theorem dX8_passes_65 : decode cX8_passes 65 = .ok (.iload_n 2, 1) := by decide +kernel
theorem dX8_passes_66 : decode cX8_passes 66 = .ok (.ior, 1) := by decide +kernel
theorem dX8_passes_67 : decode cX8_passes 67 = .ok (.iastore, 1) := by decide +kernel
theorem dX8_passes_68 : decode cX8_passes 68 = .ok (.aload_n 0, 1) := by decide +kernel
theorem dX8_passes_69 : decode cX8_passes 69 = .ok (.iload_n 1, 1) := by decide +kernel
theorem dX8_passes_70 : decode cX8_passes 70 = .ok (.invokevirtual 130, 3) := by decide +kernel
theorem dX8_passes_73 : decode cX8_passes 73 = .ok (.aload_n 0, 1) := by decide +kernel
theorem dX8_passes_74 : decode cX8_passes 74 = .ok (.iload_n 1, 1) := by decide +kernel
theorem dX8_passes_75 : decode cX8_passes 75 = .ok (.invokevirtual 114, 3) := by decide +kernel
theorem dX8_passes_78 : decode cX8_passes 78 = .ok (.aload_n 0, 1) := by decide +kernel
theorem dX8_passes_79 : decode cX8_passes 79 = .ok (.getfield 7, 3) := by decide +kernel
theorem dX8_passes_82 : decode cX8_passes 82 = .ok (.iload_n 1, 1) := by decide +kernel
theorem dX8_passes_83 : decode cX8_passes 83 = .ok (.iconst 1, 1) := by decide +kernel
theorem dX8_passes_84 : decode cX8_passes 84 = .ok (.iadd, 1) := by decide +kernel
theorem dX8_passes_85 : decode cX8_passes 85 = .ok (.iaload, 1) := by decide +kernel
theorem dX8_passes_86 : decode cX8_passes 86 = .ok (.if_icmp .ne 28, 3) := by decide +kernel
theorem dX8_passes_89 : decode cX8_passes 89 = .ok (.aload_n 0, 1) := by decide +kernel
theorem dX8_passes_90 : decode cX8_passes 90 = .ok (.iload_n 1, 1) := by decide +kernel
theorem dX8_passes_91 : decode cX8_passes 91 = .ok (.aload_n 0, 1) := by decide +kernel
theorem dX8_passes_92 : decode cX8_passes 92 = .ok (.getfield 7, 3) := by decide +kernel
theorem dX8_passes_95 : decode cX8_passes 95 = .ok (.iload_n 1, 1) := by decide +kernel
theorem dX8_passes_96 : decode cX8_passes 96 = .ok (.iconst 4, 1) := by decide +kernel
theorem dX8_passes_97 : decode cX8_passes 97 = .ok (.iadd, 1) := by decide +kernel
theorem dX8_passes_98 : decode cX8_passes 98 = .ok (.iaload, 1) := by decide +kernel
theorem dX8_passes_99 : decode cX8_passes 99 = .ok (.invokevirtual 134, 3) := by decide +kernel
theorem dX8_passes_102 : decode cX8_passes 102 = .ok (.aload_n 0, 1) := by decide +kernel
theorem dX8_passes_103 : decode cX8_passes 103 = .ok (.getfield 7, 3) := by decide +kernel
theorem dX8_passes_106 : decode cX8_passes 106 = .ok (.iload_n 1, 1) := by decide +kernel
theorem dX8_passes_107 : decode cX8_passes 107 = .ok (.iconst 4, 1) := by decide +kernel
theorem dX8_passes_108 : decode cX8_passes 108 = .ok (.iadd, 1) := by decide +kernel
theorem dX8_passes_109 : decode cX8_passes 109 = .ok (.iconst 0, 1) := by decide +kernel
theorem dX8_passes_110 : decode cX8_passes 110 = .ok (.iastore, 1) := by decide +kernel
theorem dX8_passes_111 : decode cX8_passes 111 = .ok (.goto 9, 3) := by decide +kernel
theorem dX8_passes_114 : decode cX8_passes 114 = .ok (.aload_n 0, 1) := by decide +kernel
theorem dX8_passes_115 : decode cX8_passes 115 = .ok (.iload_n 1, 1) := by decide +kernel
theorem dX8_passes_116 : decode cX8_passes 116 = .ok (.iload_n 2, 1) := by decide +kernel
theorem dX8_passes_117 : decode cX8_passes 117 = .ok (.invokevirtual 134, 3) := by decide +kernel
theorem dX8_passes_120 : decode cX8_passes 120 = .ok (.aload_n 0, 1) := by decide +kernel
theorem dX8_passes_121 : decode cX8_passes 121 = .ok (.getfield 7, 3) := by decide +kernel
theorem dX8_passes_124 : decode cX8_passes 124 = .ok (.iload_n 1, 1) := by decide +kernel
theorem dX8_passes_125 : decode cX8_passes 125 = .ok (.iconst 3, 1) := by decide +kernel
theorem dX8_passes_126 : decode cX8_passes 126 = .ok (.iadd, 1) := by decide +kernel
theorem dX8_passes_127 : decode cX8_passes 127 = .ok (.dup2, 1) := by decide +kernel
theorem dX8_passes_128 : decode cX8_passes 128 = .ok (.iaload, 1) := by decide +kernel
theorem dX8_passes_129 : decode cX8_passes 129 = .ok (.iconst 1, 1) := by decide +kernel
theorem dX8_passes_130 : decode cX8_passes 130 = .ok (.iadd, 1) := by decide +kernel
theorem dX8_passes_131 : decode cX8_passes 131 = .ok (.iastore, 1) := by decide +kernel
theorem dX8_passes_132 : decode cX8_passes 132 = .ok (.iload_n 2, 1) := by decide +kernel
theorem dX8_passes_133 : decode cX8_passes 133 = .ok (.ireturn, 1) := by decide +kernel
set_option maxRecDepth 20000 in
theorem ggX8_minds_X8_copyOf : GoodIn wsX8_minds wsX8_copyOf := goodIn_r _ [7, 2, 8, 9, 10, 11, 12, 13, 14, 15, 16, 17, 18, 19, 20, 21, 22] (by decide +kernel) (by decide +kernel)
set_option maxRecDepth 20000 in
theorem gX8_minds_X8_copyOf : GoodIn wsX8_minds (wsV RX8 107 RX8 yX8_copyOf wsX8_copyOf) := goodIn_app (goodIn_of _ (by decide +kernel)) ggX8_minds_X8_copyOf
theorem dX8_minds_0 : decode cX8_minds 0 = .ok (.aload_n 0, 1) := by decide +kernel
theorem dX8_minds_1 : decode cX8_minds 1 = .ok (.getfield 111, 3) := by decide +kernel
theorem dX8_minds_4 : decode cX8_minds 4 = .ok (.bipush 24, 2) := by decide +kernel
theorem dX8_minds_6 : decode cX8_minds 6 = .ok (.if_icmp .ne 51, 3) := by decide +kernel
theorem dX8_minds_9 : decode cX8_minds 9 = .ok (.iconst 0, 1) := by decide +kernel
theorem dX8_minds_10 : decode cX8_minds 10 = .ok (.istore_n 1, 1) := by decide +kernel
theorem dX8_minds_11 : decode cX8_minds 11 = .ok (.iload_n 1, 1) := by decide +kernel
theorem dX8_minds_12 : decode cX8_minds 12 = .ok (.sipush 1265, 3) := by decide +kernel
theorem dX8_minds_15 : decode cX8_minds 15 = .ok (.if_icmp .ge 32, 3) := by decide +kernel
theorem dX8_minds_18 : decode cX8_minds 18 = .ok (.aload_n 0, 1) := by decide +kernel
theorem dX8_minds_19 : decode cX8_minds 19 = .ok (.getfield 7, 3) := by decide +kernel
theorem dX8_minds_22 : decode cX8_minds 22 = .ok (.sipush 275, 3) := by decide +kernel
theorem dX8_minds_25 : decode cX8_minds 25 = .ok (.iload_n 1, 1) := by decide +kernel
theorem dX8_minds_26 : decode cX8_minds 26 = .ok (.iadd, 1) := by decide +kernel
theorem dX8_minds_27 : decode cX8_minds 27 = .ok (.aload_n 0, 1) := by decide +kernel
theorem dX8_minds_28 : decode cX8_minds 28 = .ok (.getfield 7, 3) := by decide +kernel
theorem dX8_minds_31 : decode cX8_minds 31 = .ok (.sipush 275, 3) := by decide +kernel
theorem dX8_minds_34 : decode cX8_minds 34 = .ok (.iload_n 1, 1) := by decide +kernel
theorem dX8_minds_35 : decode cX8_minds 35 = .ok (.iadd, 1) := by decide +kernel
theorem dX8_minds_36 : decode cX8_minds 36 = .ok (.bipush 55, 2) := by decide +kernel
theorem dX8_minds_38 : decode cX8_minds 38 = .ok (.iadd, 1) := by decide +kernel
theorem dX8_minds_39 : decode cX8_minds 39 = .ok (.iaload, 1) := by decide +kernel
theorem dX8_minds_40 : decode cX8_minds 40 = .ok (.iastore, 1) := by decide +kernel
theorem dX8_minds_41 : decode cX8_minds 41 = .ok (.iinc 1 1, 3) := by decide +kernel
theorem dX8_minds_44 : decode cX8_minds 44 = .ok (.goto (-33), 3) := by decide +kernel
theorem dX8_minds_47 : decode cX8_minds 47 = .ok (.aload_n 0, 1) := by decide +kernel
theorem dX8_minds_48 : decode cX8_minds 48 = .ok (.dup, 1) := by decide +kernel
theorem dX8_minds_49 : decode cX8_minds 49 = .ok (.getfield 111, 3) := by decide +kernel
theorem dX8_minds_52 : decode cX8_minds 52 = .ok (.iconst 1, 1) := by decide +kernel
theorem dX8_minds_53 : decode cX8_minds 53 = .ok (.isub, 1) := by decide +kernel
theorem dX8_minds_54 : decode cX8_minds 54 = .ok (.putfield 111, 3) := by decide +kernel
theorem dX8_minds_57 : decode cX8_minds 57 = .ok (.aload_n 0, 1) := by decide +kernel
theorem dX8_minds_58 : decode cX8_minds 58 = .ok (.iconst 0, 1) := by decide +kernel
theorem dX8_minds_59 : decode cX8_minds 59 = .ok (.sipush 275, 3) := by decide +kernel
theorem dX8_minds_62 : decode cX8_minds 62 = .ok (.bipush 55, 2) := by decide +kernel
theorem dX8_minds_64 : decode cX8_minds 64 = .ok (.aload_n 0, 1) := by decide +kernel
theorem dX8_minds_65 : decode cX8_minds 65 = .ok (.getfield 111, 3) := by decide +kernel
theorem dX8_minds_68 : decode cX8_minds 68 = .ok (.imul, 1) := by decide +kernel
theorem dX8_minds_69 : decode cX8_minds 69 = .ok (.iadd, 1) := by decide +kernel
theorem dX8_minds_70 : decode cX8_minds 70 = .ok (.invokevirtual 107, 3) := by decide +kernel
theorem dX8_minds_73 : decode cX8_minds 73 = .ok (.aload_n 0, 1) := by decide +kernel
theorem dX8_minds_74 : decode cX8_minds 74 = .ok (.dup, 1) := by decide +kernel
theorem dX8_minds_75 : decode cX8_minds 75 = .ok (.getfield 111, 3) := by decide +kernel
theorem dX8_minds_78 : decode cX8_minds 78 = .ok (.iconst 1, 1) := by decide +kernel
theorem dX8_minds_79 : decode cX8_minds 79 = .ok (.iadd, 1) := by decide +kernel
theorem dX8_minds_80 : decode cX8_minds 80 = .ok (.putfield 111, 3) := by decide +kernel
theorem dX8_minds_83 : decode cX8_minds 83 = .ok (.return_, 1) := by decide +kernel
set_option maxRecDepth 20000 in
theorem ggX8_times_X8_isStreet : GoodIn wsX8_times wsX8_isStreet := goodIn_r _ [10, 4, 53, 54, 55, 56, 57, 58, 59, 60, 61, 62, 63, 64, 65, 66, 67] (by decide +kernel) (by decide +kernel)
set_option maxRecDepth 20000 in
theorem gX8_times_X8_isStreet : GoodIn wsX8_times (wsV RX8 137 RX8 yX8_isStreet wsX8_isStreet) := goodIn_app (goodIn_of _ (by decide +kernel)) ggX8_times_X8_isStreet
set_option maxRecDepth 20000 in
theorem ggX8_times_X8_in : GoodIn wsX8_times wsX8_in := goodIn_r _ [13] (by decide +kernel) (by decide +kernel)
set_option maxRecDepth 20000 in
theorem gX8_times_X8_in : GoodIn wsX8_times (va_wsS RX8 31 yX8_in wsX8_in) := goodIn_app (goodIn_of _ (by decide +kernel)) ggX8_times_X8_in
set_option maxRecDepth 20000 in
theorem ggX8_times_X8_minds : GoodIn wsX8_times wsX8_minds := goodIn_r _ [17, 18, 4, 19, 20, 21, 9, 22, 53, 54, 55, 56, 57, 58, 59, 60, 61, 62, 63, 64, 65, 66, 67] (by decide +kernel) (by decide +kernel)
set_option maxRecDepth 20000 in
theorem gX8_times_X8_minds : GoodIn wsX8_times (wsV RX8 143 RX8 yX8_minds wsX8_minds) := goodIn_app (goodIn_of _ (by decide +kernel)) ggX8_times_X8_minds
set_option maxRecDepth 20000 in
theorem ggX8_times_X8_passes : GoodIn wsX8_times wsX8_passes := goodIn_r _ [26, 4, 27, 28, 9, 29, 30, 31, 32, 33, 34, 35, 36, 37, 38, 39, 40, 41, 42, 43, 44, 45, 46, 47, 48, 49, 50, 51, 52, 53, 54, 55, 56, 57, 58, 59, 60, 61, 62, 63, 64, 65, 66, 67] (by decide +kernel) (by decide +kernel)
set_option maxRecDepth 20000 in
theorem gX8_times_X8_passes : GoodIn wsX8_times (wsV RX8 146 RX8 yX8_passes wsX8_passes) := goodIn_app (goodIn_of _ (by decide +kernel)) ggX8_times_X8_passes
theorem dX8_times_0 : decode cX8_times 0 = .ok (.aload_n 0, 1) := by decide +kernel
theorem dX8_times_1 : decode cX8_times 1 = .ok (.invokevirtual 137, 3) := by decide +kernel
theorem dX8_times_4 : decode cX8_times 4 = .ok (.ifCond .ne 6, 3) := by decide +kernel
theorem dX8_times_7 : decode cX8_times 7 = .ok (.ldc 140, 2) := by decide +kernel
theorem dX8_times_9 : decode cX8_times 9 = .ok (.ireturn, 1) := by decide +kernel
theorem dX8_times_10 : decode cX8_times 10 = .ok (.iload_n 1, 1) := by decide +kernel
theorem dX8_times_11 : decode cX8_times 11 = .ok (.i2l, 1) := by decide +kernel
theorem dX8_times_12 : decode cX8_times 12 = .ok (.lconst 1, 1) := by decide +kernel
theorem dX8_times_13 : decode cX8_times 13 = .ok (.ldc2_w 141, 3) := by decide +kernel
theorem dX8_times_16 : decode cX8_times 16 = .ok (.invokestatic 31, 3) := by decide +kernel
theorem dX8_times_19 : decode cX8_times 19 = .ok (.ifCond .ne 6, 3) := by decide +kernel
theorem dX8_times_22 : decode cX8_times 22 = .ok (.ldc 48, 2) := by decide +kernel
theorem dX8_times_24 : decode cX8_times 24 = .ok (.ireturn, 1) := by decide +kernel
theorem dX8_times_25 : decode cX8_times 25 = .ok (.aload_n 0, 1) := by decide +kernel
theorem dX8_times_26 : decode cX8_times 26 = .ok (.getfield 7, 3) := by decide +kernel
theorem dX8_times_29 : decode cX8_times 29 = .ok (.iconst 3, 1) := by decide +kernel
theorem dX8_times_30 : decode cX8_times 30 = .ok (.iaload, 1) := by decide +kernel
theorem dX8_times_31 : decode cX8_times 31 = .ok (.iload_n 1, 1) := by decide +kernel
theorem dX8_times_32 : decode cX8_times 32 = .ok (.iadd, 1) := by decide +kernel
theorem dX8_times_33 : decode cX8_times 33 = .ok (.sipush 9999, 3) := by decide +kernel
theorem dX8_times_36 : decode cX8_times 36 = .ok (.if_icmp .le 6, 3) := by decide +kernel
theorem dX8_times_39 : decode cX8_times 39 = .ok (.ldc 62, 2) := by decide +kernel
theorem dX8_times_41 : decode cX8_times 41 = .ok (.ireturn, 1) := by decide +kernel
theorem dX8_times_42 : decode cX8_times 42 = .ok (.iconst 0, 1) := by decide +kernel
theorem dX8_times_43 : decode cX8_times 43 = .ok (.istore_n 2, 1) := by decide +kernel
theorem dX8_times_44 : decode cX8_times 44 = .ok (.iload_n 2, 1) := by decide +kernel
theorem dX8_times_45 : decode cX8_times 45 = .ok (.iload_n 1, 1) := by decide +kernel
theorem dX8_times_46 : decode cX8_times 46 = .ok (.if_icmp .ge 19, 3) := by decide +kernel
theorem dX8_times_49 : decode cX8_times 49 = .ok (.aload_n 0, 1) := by decide +kernel
theorem dX8_times_50 : decode cX8_times 50 = .ok (.invokevirtual 143, 3) := by decide +kernel
theorem dX8_times_53 : decode cX8_times 53 = .ok (.aload_n 0, 1) := by decide +kernel
theorem dX8_times_54 : decode cX8_times 54 = .ok (.iconst 0, 1) := by decide +kernel
theorem dX8_times_55 : decode cX8_times 55 = .ok (.invokevirtual 146, 3) := by decide +kernel
theorem dX8_times_58 : decode cX8_times 58 = .ok (.pop, 1) := by decide +kernel
theorem dX8_times_59 : decode cX8_times 59 = .ok (.iinc 2 1, 3) := by decide +kernel
theorem dX8_times_62 : decode cX8_times 62 = .ok (.goto (-18), 3) := by decide +kernel
theorem dX8_times_65 : decode cX8_times 65 = .ok (.aload_n 0, 1) := by decide +kernel
theorem dX8_times_66 : decode cX8_times 66 = .ok (.getfield 7, 3) := by decide +kernel
theorem dX8_times_69 : decode cX8_times 69 = .ok (.iconst 4, 1) := by decide +kernel
theorem dX8_times_70 : decode cX8_times 70 = .ok (.iaload, 1) := by decide +kernel
theorem dX8_times_71 : decode cX8_times 71 = .ok (.ireturn, 1) := by decide +kernel
set_option maxRecDepth 20000 in
theorem ggX8_open_X8_isWindow : GoodIn wsX8_open wsX8_isWindow := goodIn_r _ [8, 2, 9, 10, 7, 11, 24, 25, 26, 27, 28, 29, 30, 31, 32, 33, 34, 35, 36, 37, 38] (by decide +kernel) (by decide +kernel)
set_option maxRecDepth 20000 in
theorem gX8_open_X8_isWindow : GoodIn wsX8_open (wsV RX8 149 RX8 yX8_isWindow wsX8_isWindow) := goodIn_app (goodIn_of _ (by decide +kernel)) ggX8_open_X8_isWindow
set_option maxRecDepth 20000 in
theorem ggX8_open_X8_has : GoodIn wsX8_open wsX8_has := goodIn_r _ [14] (by decide +kernel) (by decide +kernel)
set_option maxRecDepth 20000 in
theorem gX8_open_X8_has : GoodIn wsX8_open (va_wsS RX8 120 yX8_has wsX8_has) := goodIn_app (goodIn_of _ (by decide +kernel)) ggX8_open_X8_has
set_option maxRecDepth 20000 in
theorem ggX8_open_X8_minds : GoodIn wsX8_open wsX8_minds := goodIn_r _ [18, 19, 2, 20, 21, 22, 7, 23, 24, 25, 26, 27, 28, 29, 30, 31, 32, 33, 34, 35, 36, 37, 38] (by decide +kernel) (by decide +kernel)
set_option maxRecDepth 20000 in
theorem gX8_open_X8_minds : GoodIn wsX8_open (wsV RX8 143 RX8 yX8_minds wsX8_minds) := goodIn_app (goodIn_of _ (by decide +kernel)) ggX8_open_X8_minds
theorem dX8_open_0 : decode cX8_open 0 = .ok (.aload_n 0, 1) := by decide +kernel
theorem dX8_open_1 : decode cX8_open 1 = .ok (.iload_n 1, 1) := by decide +kernel
theorem dX8_open_2 : decode cX8_open 2 = .ok (.invokevirtual 149, 3) := by decide +kernel
theorem dX8_open_5 : decode cX8_open 5 = .ok (.ifCond .ne 6, 3) := by decide +kernel
theorem dX8_open_8 : decode cX8_open 8 = .ok (.ldc 48, 2) := by decide +kernel
theorem dX8_open_10 : decode cX8_open 10 = .ok (.ireturn, 1) := by decide +kernel
theorem dX8_open_11 : decode cX8_open 11 = .ok (.aload_n 0, 1) := by decide +kernel
theorem dX8_open_12 : decode cX8_open 12 = .ok (.getfield 7, 3) := by decide +kernel
theorem dX8_open_15 : decode cX8_open 15 = .ok (.iconst 4, 1) := by decide +kernel
theorem dX8_open_16 : decode cX8_open 16 = .ok (.iaload, 1) := by decide +kernel
theorem dX8_open_17 : decode cX8_open 17 = .ok (.iload_n 1, 1) := by decide +kernel
theorem dX8_open_18 : decode cX8_open 18 = .ok (.invokestatic 120, 3) := by decide +kernel
theorem dX8_open_21 : decode cX8_open 21 = .ok (.ifCond .eq 6, 3) := by decide +kernel
theorem dX8_open_24 : decode cX8_open 24 = .ok (.ldc 140, 2) := by decide +kernel
theorem dX8_open_26 : decode cX8_open 26 = .ok (.ireturn, 1) := by decide +kernel
theorem dX8_open_27 : decode cX8_open 27 = .ok (.aload_n 0, 1) := by decide +kernel
theorem dX8_open_28 : decode cX8_open 28 = .ok (.invokevirtual 143, 3) := by decide +kernel
theorem dX8_open_31 : decode cX8_open 31 = .ok (.aload_n 0, 1) := by decide +kernel
theorem dX8_open_32 : decode cX8_open 32 = .ok (.getfield 7, 3) := by decide +kernel
theorem dX8_open_35 : decode cX8_open 35 = .ok (.iconst 4, 1) := by decide +kernel
theorem dX8_open_36 : decode cX8_open 36 = .ok (.dup2, 1) := by decide +kernel
theorem dX8_open_37 : decode cX8_open 37 = .ok (.iaload, 1) := by decide +kernel
theorem dX8_open_38 : decode cX8_open 38 = .ok (.iconst 1, 1) := by decide +kernel
theorem dX8_open_39 : decode cX8_open 39 = .ok (.iload_n 1, 1) := by decide +kernel
theorem dX8_open_40 : decode cX8_open 40 = .ok (.ishl, 1) := by decide +kernel
theorem dX8_open_41 : decode cX8_open 41 = .ok (.ior, 1) := by decide +kernel
theorem dX8_open_42 : decode cX8_open 42 = .ok (.iastore, 1) := by decide +kernel
theorem dX8_open_43 : decode cX8_open 43 = .ok (.aload_n 0, 1) := by decide +kernel
theorem dX8_open_44 : decode cX8_open 44 = .ok (.getfield 7, 3) := by decide +kernel
theorem dX8_open_47 : decode cX8_open 47 = .ok (.bipush 15, 2) := by decide +kernel
theorem dX8_open_49 : decode cX8_open 49 = .ok (.iload_n 1, 1) := by decide +kernel
theorem dX8_open_50 : decode cX8_open 50 = .ok (.iadd, 1) := by decide +kernel
theorem dX8_open_51 : decode cX8_open 51 = .ok (.iaload, 1) := by decide +kernel
theorem dX8_open_52 : decode cX8_open 52 = .ok (.ireturn, 1) := by decide +kernel
set_option maxRecDepth 20000 in
theorem ggX8_press_X8_isWindow : GoodIn wsX8_press wsX8_isWindow := goodIn_r _ [8, 2, 9, 10, 7, 11, 24, 25, 26, 27, 28, 29, 30, 31, 32, 33, 34, 35, 36, 37, 38] (by decide +kernel) (by decide +kernel)
set_option maxRecDepth 20000 in
theorem gX8_press_X8_isWindow : GoodIn wsX8_press (wsV RX8 149 RX8 yX8_isWindow wsX8_isWindow) := goodIn_app (goodIn_of _ (by decide +kernel)) ggX8_press_X8_isWindow
set_option maxRecDepth 20000 in
theorem ggX8_press_X8_has : GoodIn wsX8_press wsX8_has := goodIn_r _ [14] (by decide +kernel) (by decide +kernel)
set_option maxRecDepth 20000 in
theorem gX8_press_X8_has : GoodIn wsX8_press (va_wsS RX8 120 yX8_has wsX8_has) := goodIn_app (goodIn_of _ (by decide +kernel)) ggX8_press_X8_has
set_option maxRecDepth 20000 in
theorem ggX8_press_X8_minds : GoodIn wsX8_press wsX8_minds := goodIn_r _ [18, 19, 2, 20, 21, 22, 7, 23, 24, 25, 26, 27, 28, 29, 30, 31, 32, 33, 34, 35, 36, 37, 38] (by decide +kernel) (by decide +kernel)
set_option maxRecDepth 20000 in
theorem gX8_press_X8_minds : GoodIn wsX8_press (wsV RX8 143 RX8 yX8_minds wsX8_minds) := goodIn_app (goodIn_of _ (by decide +kernel)) ggX8_press_X8_minds
theorem dX8_press_0 : decode cX8_press 0 = .ok (.aload_n 0, 1) := by decide +kernel
theorem dX8_press_1 : decode cX8_press 1 = .ok (.iload_n 1, 1) := by decide +kernel
theorem dX8_press_2 : decode cX8_press 2 = .ok (.invokevirtual 149, 3) := by decide +kernel
theorem dX8_press_5 : decode cX8_press 5 = .ok (.ifCond .ne 6, 3) := by decide +kernel
theorem dX8_press_8 : decode cX8_press 8 = .ok (.ldc 48, 2) := by decide +kernel
theorem dX8_press_10 : decode cX8_press 10 = .ok (.ireturn, 1) := by decide +kernel
theorem dX8_press_11 : decode cX8_press 11 = .ok (.aload_n 0, 1) := by decide +kernel
theorem dX8_press_12 : decode cX8_press 12 = .ok (.getfield 7, 3) := by decide +kernel
theorem dX8_press_15 : decode cX8_press 15 = .ok (.iconst 4, 1) := by decide +kernel
theorem dX8_press_16 : decode cX8_press 16 = .ok (.iaload, 1) := by decide +kernel
theorem dX8_press_17 : decode cX8_press 17 = .ok (.iload_n 1, 1) := by decide +kernel
theorem dX8_press_18 : decode cX8_press 18 = .ok (.invokestatic 120, 3) := by decide +kernel
theorem dX8_press_21 : decode cX8_press 21 = .ok (.ifCond .ne 6, 3) := by decide +kernel
theorem dX8_press_24 : decode cX8_press 24 = .ok (.ldc 140, 2) := by decide +kernel
theorem dX8_press_26 : decode cX8_press 26 = .ok (.ireturn, 1) := by decide +kernel
theorem dX8_press_27 : decode cX8_press 27 = .ok (.aload_n 0, 1) := by decide +kernel
theorem dX8_press_28 : decode cX8_press 28 = .ok (.invokevirtual 143, 3) := by decide +kernel
theorem dX8_press_31 : decode cX8_press 31 = .ok (.aload_n 0, 1) := by decide +kernel
theorem dX8_press_32 : decode cX8_press 32 = .ok (.getfield 7, 3) := by decide +kernel
theorem dX8_press_35 : decode cX8_press 35 = .ok (.iconst 4, 1) := by decide +kernel
theorem dX8_press_36 : decode cX8_press 36 = .ok (.dup2, 1) := by decide +kernel
theorem dX8_press_37 : decode cX8_press 37 = .ok (.iaload, 1) := by decide +kernel
theorem dX8_press_38 : decode cX8_press 38 = .ok (.iconst 1, 1) := by decide +kernel
theorem dX8_press_39 : decode cX8_press 39 = .ok (.iload_n 1, 1) := by decide +kernel
theorem dX8_press_40 : decode cX8_press 40 = .ok (.ishl, 1) := by decide +kernel
theorem dX8_press_41 : decode cX8_press 41 = .ok (.iconst (-1), 1) := by decide +kernel
theorem dX8_press_42 : decode cX8_press 42 = .ok (.ixor, 1) := by decide +kernel
theorem dX8_press_43 : decode cX8_press 43 = .ok (.iand, 1) := by decide +kernel
theorem dX8_press_44 : decode cX8_press 44 = .ok (.iastore, 1) := by decide +kernel
theorem dX8_press_45 : decode cX8_press 45 = .ok (.aload_n 0, 1) := by decide +kernel
theorem dX8_press_46 : decode cX8_press 46 = .ok (.getfield 7, 3) := by decide +kernel
theorem dX8_press_49 : decode cX8_press 49 = .ok (.bipush 35, 2) := by decide +kernel
theorem dX8_press_51 : decode cX8_press 51 = .ok (.iload_n 1, 1) := by decide +kernel
theorem dX8_press_52 : decode cX8_press 52 = .ok (.iadd, 1) := by decide +kernel
theorem dX8_press_53 : decode cX8_press 53 = .ok (.iaload, 1) := by decide +kernel
theorem dX8_press_54 : decode cX8_press 54 = .ok (.ireturn, 1) := by decide +kernel
set_option maxRecDepth 20000 in
theorem ggX8_glue_X8_isWindow : GoodIn wsX8_glue wsX8_isWindow := goodIn_r _ [8, 3, 9, 10, 7, 11, 21, 22, 23, 24, 25, 26, 27, 28, 29, 30, 31, 32, 33, 34, 35] (by decide +kernel) (by decide +kernel)
set_option maxRecDepth 20000 in
theorem gX8_glue_X8_isWindow : GoodIn wsX8_glue (wsV RX8 149 RX8 yX8_isWindow wsX8_isWindow) := goodIn_app (goodIn_of _ (by decide +kernel)) ggX8_glue_X8_isWindow
set_option maxRecDepth 20000 in
theorem ggX8_glue_X8_in : GoodIn wsX8_glue wsX8_in := goodIn_r _ [11] (by decide +kernel) (by decide +kernel)
set_option maxRecDepth 20000 in
theorem gX8_glue_X8_in : GoodIn wsX8_glue (va_wsS RX8 31 yX8_in wsX8_in) := goodIn_app (goodIn_of _ (by decide +kernel)) ggX8_glue_X8_in
set_option maxRecDepth 20000 in
theorem ggX8_glue_X8_minds : GoodIn wsX8_glue wsX8_minds := goodIn_r _ [15, 16, 3, 17, 18, 19, 7, 20, 21, 22, 23, 24, 25, 26, 27, 28, 29, 30, 31, 32, 33, 34, 35] (by decide +kernel) (by decide +kernel)
set_option maxRecDepth 20000 in
theorem gX8_glue_X8_minds : GoodIn wsX8_glue (wsV RX8 143 RX8 yX8_minds wsX8_minds) := goodIn_app (goodIn_of _ (by decide +kernel)) ggX8_glue_X8_minds
theorem dX8_glue_0 : decode cX8_glue 0 = .ok (.aload_n 0, 1) := by decide +kernel
theorem dX8_glue_1 : decode cX8_glue 1 = .ok (.iload_n 1, 1) := by decide +kernel
theorem dX8_glue_2 : decode cX8_glue 2 = .ok (.invokevirtual 149, 3) := by decide +kernel
theorem dX8_glue_5 : decode cX8_glue 5 = .ok (.ifCond .eq 15, 3) := by decide +kernel
theorem dX8_glue_8 : decode cX8_glue 8 = .ok (.iload_n 2, 1) := by decide +kernel
theorem dX8_glue_9 : decode cX8_glue 9 = .ok (.i2l, 1) := by decide +kernel
theorem dX8_glue_10 : decode cX8_glue 10 = .ok (.lconst 1, 1) := by decide +kernel
theorem dX8_glue_11 : decode cX8_glue 11 = .ok (.ldc2_w 152, 3) := by decide +kernel
theorem dX8_glue_14 : decode cX8_glue 14 = .ok (.invokestatic 31, 3) := by decide +kernel
theorem dX8_glue_17 : decode cX8_glue 17 = .ok (.ifCond .ne 6, 3) := by decide +kernel
theorem dX8_glue_20 : decode cX8_glue 20 = .ok (.ldc 48, 2) := by decide +kernel
theorem dX8_glue_22 : decode cX8_glue 22 = .ok (.ireturn, 1) := by decide +kernel
theorem dX8_glue_23 : decode cX8_glue 23 = .ok (.aload_n 0, 1) := by decide +kernel
theorem dX8_glue_24 : decode cX8_glue 24 = .ok (.invokevirtual 143, 3) := by decide +kernel
theorem dX8_glue_27 : decode cX8_glue 27 = .ok (.aload_n 0, 1) := by decide +kernel
theorem dX8_glue_28 : decode cX8_glue 28 = .ok (.getfield 7, 3) := by decide +kernel
theorem dX8_glue_31 : decode cX8_glue 31 = .ok (.bipush 35, 2) := by decide +kernel
theorem dX8_glue_33 : decode cX8_glue 33 = .ok (.iload_n 1, 1) := by decide +kernel
theorem dX8_glue_34 : decode cX8_glue 34 = .ok (.iadd, 1) := by decide +kernel
theorem dX8_glue_35 : decode cX8_glue 35 = .ok (.aload_n 0, 1) := by decide +kernel
theorem dX8_glue_36 : decode cX8_glue 36 = .ok (.getfield 7, 3) := by decide +kernel
theorem dX8_glue_39 : decode cX8_glue 39 = .ok (.bipush 35, 2) := by decide +kernel
theorem dX8_glue_41 : decode cX8_glue 41 = .ok (.iload_n 1, 1) := by decide +kernel
theorem dX8_glue_42 : decode cX8_glue 42 = .ok (.iadd, 1) := by decide +kernel
theorem dX8_glue_43 : decode cX8_glue 43 = .ok (.iaload, 1) := by decide +kernel
theorem dX8_glue_44 : decode cX8_glue 44 = .ok (.iload_n 2, 1) := by decide +kernel
theorem dX8_glue_45 : decode cX8_glue 45 = .ok (.iadd, 1) := by decide +kernel
theorem dX8_glue_46 : decode cX8_glue 46 = .ok (.bipush 9, 2) := by decide +kernel
theorem dX8_glue_48 : decode cX8_glue 48 = .ok (.if_icmp .le 8, 3) := by decide +kernel
theorem dX8_glue_51 : decode cX8_glue 51 = .ok (.bipush 9, 2) := by decide +kernel
theorem dX8_glue_53 : decode cX8_glue 53 = .ok (.goto 14, 3) := by decide +kernel
theorem dX8_glue_56 : decode cX8_glue 56 = .ok (.aload_n 0, 1) := by decide +kernel
theorem dX8_glue_57 : decode cX8_glue 57 = .ok (.getfield 7, 3) := by decide +kernel
theorem dX8_glue_60 : decode cX8_glue 60 = .ok (.bipush 35, 2) := by decide +kernel
theorem dX8_glue_62 : decode cX8_glue 62 = .ok (.iload_n 1, 1) := by decide +kernel
theorem dX8_glue_63 : decode cX8_glue 63 = .ok (.iadd, 1) := by decide +kernel
theorem dX8_glue_64 : decode cX8_glue 64 = .ok (.iaload, 1) := by decide +kernel
theorem dX8_glue_65 : decode cX8_glue 65 = .ok (.iload_n 2, 1) := by decide +kernel
theorem dX8_glue_66 : decode cX8_glue 66 = .ok (.iadd, 1) := by decide +kernel
theorem dX8_glue_67 : decode cX8_glue 67 = .ok (.iastore, 1) := by decide +kernel
theorem dX8_glue_68 : decode cX8_glue 68 = .ok (.aload_n 0, 1) := by decide +kernel
theorem dX8_glue_69 : decode cX8_glue 69 = .ok (.getfield 7, 3) := by decide +kernel
theorem dX8_glue_72 : decode cX8_glue 72 = .ok (.bipush 35, 2) := by decide +kernel
theorem dX8_glue_74 : decode cX8_glue 74 = .ok (.iload_n 1, 1) := by decide +kernel
theorem dX8_glue_75 : decode cX8_glue 75 = .ok (.iadd, 1) := by decide +kernel
theorem dX8_glue_76 : decode cX8_glue 76 = .ok (.iaload, 1) := by decide +kernel
theorem dX8_glue_77 : decode cX8_glue 77 = .ok (.ireturn, 1) := by decide +kernel
theorem dX8_swaps_0 : decode cX8_swaps 0 = .ok (.aload_n 0, 1) := by decide +kernel
theorem dX8_swaps_1 : decode cX8_swaps 1 = .ok (.getfield 7, 3) := by decide +kernel
theorem dX8_swaps_4 : decode cX8_swaps 4 = .ok (.iload_n 1, 1) := by decide +kernel
theorem dX8_swaps_5 : decode cX8_swaps 5 = .ok (.bipush 25, 2) := by decide +kernel
theorem dX8_swaps_7 : decode cX8_swaps 7 = .ok (.iadd, 1) := by decide +kernel
theorem dX8_swaps_8 : decode cX8_swaps 8 = .ok (.iload_n 2, 1) := by decide +kernel
theorem dX8_swaps_9 : decode cX8_swaps 9 = .ok (.iadd, 1) := by decide +kernel
theorem dX8_swaps_10 : decode cX8_swaps 10 = .ok (.iaload, 1) := by decide +kernel
theorem dX8_swaps_11 : decode cX8_swaps 11 = .ok (.istore 4, 2) := by decide +kernel
theorem dX8_swaps_13 : decode cX8_swaps 13 = .ok (.aload_n 0, 1) := by decide +kernel
theorem dX8_swaps_14 : decode cX8_swaps 14 = .ok (.getfield 7, 3) := by decide +kernel
theorem dX8_swaps_17 : decode cX8_swaps 17 = .ok (.iload_n 1, 1) := by decide +kernel
theorem dX8_swaps_18 : decode cX8_swaps 18 = .ok (.bipush 25, 2) := by decide +kernel
theorem dX8_swaps_20 : decode cX8_swaps 20 = .ok (.iadd, 1) := by decide +kernel
theorem dX8_swaps_21 : decode cX8_swaps 21 = .ok (.iload_n 2, 1) := by decide +kernel
theorem dX8_swaps_22 : decode cX8_swaps 22 = .ok (.iadd, 1) := by decide +kernel
theorem dX8_swaps_23 : decode cX8_swaps 23 = .ok (.aload_n 0, 1) := by decide +kernel
theorem dX8_swaps_24 : decode cX8_swaps 24 = .ok (.getfield 7, 3) := by decide +kernel
theorem dX8_swaps_27 : decode cX8_swaps 27 = .ok (.iload_n 1, 1) := by decide +kernel
theorem dX8_swaps_28 : decode cX8_swaps 28 = .ok (.bipush 25, 2) := by decide +kernel
theorem dX8_swaps_30 : decode cX8_swaps 30 = .ok (.iadd, 1) := by decide +kernel
theorem dX8_swaps_31 : decode cX8_swaps 31 = .ok (.iload_n 3, 1) := by decide +kernel
theorem dX8_swaps_32 : decode cX8_swaps 32 = .ok (.iadd, 1) := by decide +kernel
theorem dX8_swaps_33 : decode cX8_swaps 33 = .ok (.iaload, 1) := by decide +kernel
theorem dX8_swaps_34 : decode cX8_swaps 34 = .ok (.iastore, 1) := by decide +kernel
theorem dX8_swaps_35 : decode cX8_swaps 35 = .ok (.aload_n 0, 1) := by decide +kernel
theorem dX8_swaps_36 : decode cX8_swaps 36 = .ok (.getfield 7, 3) := by decide +kernel
theorem dX8_swaps_39 : decode cX8_swaps 39 = .ok (.iload_n 1, 1) := by decide +kernel
theorem dX8_swaps_40 : decode cX8_swaps 40 = .ok (.bipush 25, 2) := by decide +kernel
theorem dX8_swaps_42 : decode cX8_swaps 42 = .ok (.iadd, 1) := by decide +kernel
theorem dX8_swaps_43 : decode cX8_swaps 43 = .ok (.iload_n 3, 1) := by decide +kernel
theorem dX8_swaps_44 : decode cX8_swaps 44 = .ok (.iadd, 1) := by decide +kernel
theorem dX8_swaps_45 : decode cX8_swaps 45 = .ok (.iload 4, 2) := by decide +kernel
theorem dX8_swaps_47 : decode cX8_swaps 47 = .ok (.iastore, 1) := by decide +kernel
theorem dX8_swaps_48 : decode cX8_swaps 48 = .ok (.return_, 1) := by decide +kernel
set_option maxRecDepth 20000 in
theorem ggX8_trade_X8_isWindow : GoodIn wsX8_trade wsX8_isWindow := goodIn_r _ [7, 2, 8, 9, 6, 10, 24, 25, 26, 27, 28, 29, 30, 31, 32, 33, 34, 35, 36, 37, 38] (by decide +kernel) (by decide +kernel)
set_option maxRecDepth 20000 in
theorem gX8_trade_X8_isWindow : GoodIn wsX8_trade (wsV RX8 149 RX8 yX8_isWindow wsX8_isWindow) := goodIn_app (goodIn_of _ (by decide +kernel)) ggX8_trade_X8_isWindow
set_option maxRecDepth 20000 in
theorem ggX8_trade_X8_minds : GoodIn wsX8_trade wsX8_minds := goodIn_r _ [14, 15, 2, 16, 17, 18, 6, 19, 24, 25, 26, 27, 28, 29, 30, 31, 32, 33, 34, 35, 36, 37, 38] (by decide +kernel) (by decide +kernel)
set_option maxRecDepth 20000 in
theorem gX8_trade_X8_minds : GoodIn wsX8_trade (wsV RX8 143 RX8 yX8_minds wsX8_minds) := goodIn_app (goodIn_of _ (by decide +kernel)) ggX8_trade_X8_minds
set_option maxRecDepth 20000 in
theorem ggX8_trade_X8_swaps : GoodIn wsX8_trade wsX8_swaps := goodIn_r _ [23, 2, 24, 25, 26, 27, 28, 29, 30, 31, 32, 33, 34, 35, 36, 37, 38] (by decide +kernel) (by decide +kernel)
set_option maxRecDepth 20000 in
theorem gX8_trade_X8_swaps : GoodIn wsX8_trade (wsV RX8 154 RX8 yX8_swaps wsX8_swaps) := goodIn_app (goodIn_of _ (by decide +kernel)) ggX8_trade_X8_swaps
theorem dX8_trade_0 : decode cX8_trade 0 = .ok (.aload_n 0, 1) := by decide +kernel
theorem dX8_trade_1 : decode cX8_trade 1 = .ok (.iload_n 1, 1) := by decide +kernel
theorem dX8_trade_2 : decode cX8_trade 2 = .ok (.invokevirtual 149, 3) := by decide +kernel
theorem dX8_trade_5 : decode cX8_trade 5 = .ok (.ifCond .eq 16, 3) := by decide +kernel
theorem dX8_trade_8 : decode cX8_trade 8 = .ok (.aload_n 0, 1) := by decide +kernel
theorem dX8_trade_9 : decode cX8_trade 9 = .ok (.iload_n 2, 1) := by decide +kernel
theorem dX8_trade_10 : decode cX8_trade 10 = .ok (.invokevirtual 149, 3) := by decide +kernel
theorem dX8_trade_13 : decode cX8_trade 13 = .ok (.ifCond .eq 8, 3) := by decide +kernel
theorem dX8_trade_16 : decode cX8_trade 16 = .ok (.iload_n 1, 1) := by decide +kernel
theorem dX8_trade_17 : decode cX8_trade 17 = .ok (.iload_n 2, 1) := by decide +kernel
theorem dX8_trade_18 : decode cX8_trade 18 = .ok (.if_icmp .ne 6, 3) := by decide +kernel
theorem dX8_trade_21 : decode cX8_trade 21 = .ok (.ldc 48, 2) := by decide +kernel
theorem dX8_trade_23 : decode cX8_trade 23 = .ok (.ireturn, 1) := by decide +kernel
theorem dX8_trade_24 : decode cX8_trade 24 = .ok (.aload_n 0, 1) := by decide +kernel
theorem dX8_trade_25 : decode cX8_trade 25 = .ok (.invokevirtual 143, 3) := by decide +kernel
theorem dX8_trade_28 : decode cX8_trade 28 = .ok (.aload_n 0, 1) := by decide +kernel
theorem dX8_trade_29 : decode cX8_trade 29 = .ok (.iconst 0, 1) := by decide +kernel
theorem dX8_trade_30 : decode cX8_trade 30 = .ok (.iload_n 1, 1) := by decide +kernel
theorem dX8_trade_31 : decode cX8_trade 31 = .ok (.iload_n 2, 1) := by decide +kernel
theorem dX8_trade_32 : decode cX8_trade 32 = .ok (.invokevirtual 154, 3) := by decide +kernel
theorem dX8_trade_35 : decode cX8_trade 35 = .ok (.aload_n 0, 1) := by decide +kernel
theorem dX8_trade_36 : decode cX8_trade 36 = .ok (.getfield 7, 3) := by decide +kernel
theorem dX8_trade_39 : decode cX8_trade 39 = .ok (.bipush 25, 2) := by decide +kernel
theorem dX8_trade_41 : decode cX8_trade 41 = .ok (.iload_n 1, 1) := by decide +kernel
theorem dX8_trade_42 : decode cX8_trade 42 = .ok (.iadd, 1) := by decide +kernel
theorem dX8_trade_43 : decode cX8_trade 43 = .ok (.iaload, 1) := by decide +kernel
theorem dX8_trade_44 : decode cX8_trade 44 = .ok (.ireturn, 1) := by decide +kernel
set_option maxRecDepth 20000 in
theorem ggX8_sight_X8_isStreet : GoodIn wsX8_sight wsX8_isStreet := goodIn_r _ [9, 4, 22, 23, 24, 25, 26, 27, 28, 29, 30, 31, 32, 33, 34, 35, 36] (by decide +kernel) (by decide +kernel)
set_option maxRecDepth 20000 in
theorem gX8_sight_X8_isStreet : GoodIn wsX8_sight (wsV RX8 137 RX8 yX8_isStreet wsX8_isStreet) := goodIn_app (goodIn_of _ (by decide +kernel)) ggX8_sight_X8_isStreet
set_option maxRecDepth 20000 in
theorem ggX8_sight_X8_in : GoodIn wsX8_sight wsX8_in := goodIn_r _ [12] (by decide +kernel) (by decide +kernel)
set_option maxRecDepth 20000 in
theorem gX8_sight_X8_in : GoodIn wsX8_sight (va_wsS RX8 31 yX8_in wsX8_in) := goodIn_app (goodIn_of _ (by decide +kernel)) ggX8_sight_X8_in
set_option maxRecDepth 20000 in
theorem ggX8_sight_X8_minds : GoodIn wsX8_sight wsX8_minds := goodIn_r _ [16, 17, 4, 18, 19, 20, 8, 21, 22, 23, 24, 25, 26, 27, 28, 29, 30, 31, 32, 33, 34, 35, 36] (by decide +kernel) (by decide +kernel)
set_option maxRecDepth 20000 in
theorem gX8_sight_X8_minds : GoodIn wsX8_sight (wsV RX8 143 RX8 yX8_minds wsX8_minds) := goodIn_app (goodIn_of _ (by decide +kernel)) ggX8_sight_X8_minds
theorem dX8_sight_0 : decode cX8_sight 0 = .ok (.aload_n 0, 1) := by decide +kernel
theorem dX8_sight_1 : decode cX8_sight 1 = .ok (.invokevirtual 137, 3) := by decide +kernel
theorem dX8_sight_4 : decode cX8_sight 4 = .ok (.ifCond .ne 6, 3) := by decide +kernel
theorem dX8_sight_7 : decode cX8_sight 7 = .ok (.ldc 140, 2) := by decide +kernel
theorem dX8_sight_9 : decode cX8_sight 9 = .ok (.ireturn, 1) := by decide +kernel
theorem dX8_sight_10 : decode cX8_sight 10 = .ok (.iload_n 1, 1) := by decide +kernel
theorem dX8_sight_11 : decode cX8_sight 11 = .ok (.i2l, 1) := by decide +kernel
theorem dX8_sight_12 : decode cX8_sight 12 = .ok (.lconst 0, 1) := by decide +kernel
theorem dX8_sight_13 : decode cX8_sight 13 = .ok (.ldc2_w 158, 3) := by decide +kernel
theorem dX8_sight_16 : decode cX8_sight 16 = .ok (.invokestatic 31, 3) := by decide +kernel
theorem dX8_sight_19 : decode cX8_sight 19 = .ok (.ifCond .ne 6, 3) := by decide +kernel
theorem dX8_sight_22 : decode cX8_sight 22 = .ok (.ldc 48, 2) := by decide +kernel
theorem dX8_sight_24 : decode cX8_sight 24 = .ok (.ireturn, 1) := by decide +kernel
theorem dX8_sight_25 : decode cX8_sight 25 = .ok (.aload_n 0, 1) := by decide +kernel
theorem dX8_sight_26 : decode cX8_sight 26 = .ok (.invokevirtual 143, 3) := by decide +kernel
theorem dX8_sight_29 : decode cX8_sight 29 = .ok (.aload_n 0, 1) := by decide +kernel
theorem dX8_sight_30 : decode cX8_sight 30 = .ok (.getfield 7, 3) := by decide +kernel
theorem dX8_sight_33 : decode cX8_sight 33 = .ok (.iconst 2, 1) := by decide +kernel
theorem dX8_sight_34 : decode cX8_sight 34 = .ok (.iaload, 1) := by decide +kernel
theorem dX8_sight_35 : decode cX8_sight 35 = .ok (.istore_n 2, 1) := by decide +kernel
theorem dX8_sight_36 : decode cX8_sight 36 = .ok (.aload_n 0, 1) := by decide +kernel
theorem dX8_sight_37 : decode cX8_sight 37 = .ok (.getfield 7, 3) := by decide +kernel
theorem dX8_sight_40 : decode cX8_sight 40 = .ok (.iconst 2, 1) := by decide +kernel
theorem dX8_sight_41 : decode cX8_sight 41 = .ok (.iload_n 1, 1) := by decide +kernel
theorem dX8_sight_42 : decode cX8_sight 42 = .ok (.iastore, 1) := by decide +kernel
theorem dX8_sight_43 : decode cX8_sight 43 = .ok (.iload_n 2, 1) := by decide +kernel
theorem dX8_sight_44 : decode cX8_sight 44 = .ok (.ireturn, 1) := by decide +kernel
set_option maxRecDepth 20000 in
theorem ggX8_undo_X8_copyOf : GoodIn wsX8_undo wsX8_copyOf := goodIn_r _ [7, 8, 9, 10, 11, 12, 13, 14, 15, 16, 17, 18, 19, 20, 21, 22, 23] (by decide +kernel) (by decide +kernel)
set_option maxRecDepth 20000 in
theorem gX8_undo_X8_copyOf : GoodIn wsX8_undo (wsV RX8 107 RX8 yX8_copyOf wsX8_copyOf) := goodIn_app (goodIn_of _ (by decide +kernel)) ggX8_undo_X8_copyOf
theorem dX8_undo_0 : decode cX8_undo 0 = .ok (.aload_n 0, 1) := by decide +kernel
theorem dX8_undo_1 : decode cX8_undo 1 = .ok (.getfield 111, 3) := by decide +kernel
theorem dX8_undo_4 : decode cX8_undo 4 = .ok (.ifCond .ne 6, 3) := by decide +kernel
theorem dX8_undo_7 : decode cX8_undo 7 = .ok (.ldc 140, 2) := by decide +kernel
theorem dX8_undo_9 : decode cX8_undo 9 = .ok (.ireturn, 1) := by decide +kernel
theorem dX8_undo_10 : decode cX8_undo 10 = .ok (.aload_n 0, 1) := by decide +kernel
theorem dX8_undo_11 : decode cX8_undo 11 = .ok (.dup, 1) := by decide +kernel
theorem dX8_undo_12 : decode cX8_undo 12 = .ok (.getfield 111, 3) := by decide +kernel
theorem dX8_undo_15 : decode cX8_undo 15 = .ok (.iconst 1, 1) := by decide +kernel
theorem dX8_undo_16 : decode cX8_undo 16 = .ok (.isub, 1) := by decide +kernel
theorem dX8_undo_17 : decode cX8_undo 17 = .ok (.putfield 111, 3) := by decide +kernel
theorem dX8_undo_20 : decode cX8_undo 20 = .ok (.aload_n 0, 1) := by decide +kernel
theorem dX8_undo_21 : decode cX8_undo 21 = .ok (.sipush 275, 3) := by decide +kernel
theorem dX8_undo_24 : decode cX8_undo 24 = .ok (.bipush 55, 2) := by decide +kernel
theorem dX8_undo_26 : decode cX8_undo 26 = .ok (.aload_n 0, 1) := by decide +kernel
theorem dX8_undo_27 : decode cX8_undo 27 = .ok (.getfield 111, 3) := by decide +kernel
theorem dX8_undo_30 : decode cX8_undo 30 = .ok (.imul, 1) := by decide +kernel
theorem dX8_undo_31 : decode cX8_undo 31 = .ok (.iadd, 1) := by decide +kernel
theorem dX8_undo_32 : decode cX8_undo 32 = .ok (.iconst 0, 1) := by decide +kernel
theorem dX8_undo_33 : decode cX8_undo 33 = .ok (.invokevirtual 107, 3) := by decide +kernel
theorem dX8_undo_36 : decode cX8_undo 36 = .ok (.aload_n 0, 1) := by decide +kernel
theorem dX8_undo_37 : decode cX8_undo 37 = .ok (.getfield 111, 3) := by decide +kernel
theorem dX8_undo_40 : decode cX8_undo 40 = .ok (.ireturn, 1) := by decide +kernel
set_option maxRecDepth 20000 in
theorem ggX8_window_X8_isWindow : GoodIn wsX8_window wsX8_isWindow := goodIn_r _ [7, 2, 8, 9, 6, 10, 26, 27, 28, 29, 30, 31, 32, 33, 34, 35, 36, 37, 38, 39, 40] (by decide +kernel) (by decide +kernel)
set_option maxRecDepth 20000 in
theorem gX8_window_X8_isWindow : GoodIn wsX8_window (wsV RX8 149 RX8 yX8_isWindow wsX8_isWindow) := goodIn_app (goodIn_of _ (by decide +kernel)) ggX8_window_X8_isWindow
set_option maxRecDepth 20000 in
theorem ggX8_window_X8_would : GoodIn wsX8_window wsX8_would := goodIn_r _ [14, 2, 15, 16, 17, 6, 18, 19, 20, 21, 22, 23, 24, 25, 26, 27, 28, 29, 30, 31, 32, 33, 34, 35, 36, 37, 38, 39, 40] (by decide +kernel) (by decide +kernel)
set_option maxRecDepth 20000 in
theorem gX8_window_X8_would : GoodIn wsX8_window (wsV RX8 127 RX8 yX8_would wsX8_would) := goodIn_app (goodIn_of _ (by decide +kernel)) ggX8_window_X8_would
theorem dX8_window_0 : decode cX8_window 0 = .ok (.aload_n 0, 1) := by decide +kernel
theorem dX8_window_1 : decode cX8_window 1 = .ok (.iload_n 1, 1) := by decide +kernel
theorem dX8_window_2 : decode cX8_window 2 = .ok (.invokevirtual 149, 3) := by decide +kernel
theorem dX8_window_5 : decode cX8_window 5 = .ok (.ifCond .ne 6, 3) := by decide +kernel
theorem dX8_window_8 : decode cX8_window 8 = .ok (.ldc 48, 2) := by decide +kernel
theorem dX8_window_10 : decode cX8_window 10 = .ok (.ireturn, 1) := by decide +kernel
theorem dX8_window_11 : decode cX8_window 11 = .ok (.iload_n 2, 1) := by decide +kernel
theorem dX8_window_12 : decode cX8_window 12 = .ok (.tableswitch 106 0 5 #[40, 50, 60, 70, 81, 91], 40) := by decide +kernel
theorem dX8_window_52 : decode cX8_window 52 = .ok (.aload_n 0, 1) := by decide +kernel
theorem dX8_window_53 : decode cX8_window 53 = .ok (.getfield 7, 3) := by decide +kernel
theorem dX8_window_56 : decode cX8_window 56 = .ok (.bipush 25, 2) := by decide +kernel
theorem dX8_window_58 : decode cX8_window 58 = .ok (.iload_n 1, 1) := by decide +kernel
theorem dX8_window_59 : decode cX8_window 59 = .ok (.iadd, 1) := by decide +kernel
theorem dX8_window_60 : decode cX8_window 60 = .ok (.iaload, 1) := by decide +kernel
theorem dX8_window_61 : decode cX8_window 61 = .ok (.ireturn, 1) := by decide +kernel
theorem dX8_window_62 : decode cX8_window 62 = .ok (.aload_n 0, 1) := by decide +kernel
theorem dX8_window_63 : decode cX8_window 63 = .ok (.getfield 7, 3) := by decide +kernel
theorem dX8_window_66 : decode cX8_window 66 = .ok (.bipush 15, 2) := by decide +kernel
theorem dX8_window_68 : decode cX8_window 68 = .ok (.iload_n 1, 1) := by decide +kernel
theorem dX8_window_69 : decode cX8_window 69 = .ok (.iadd, 1) := by decide +kernel
theorem dX8_window_70 : decode cX8_window 70 = .ok (.iaload, 1) := by decide +kernel
theorem dX8_window_71 : decode cX8_window 71 = .ok (.ireturn, 1) := by decide +kernel
theorem dX8_window_72 : decode cX8_window 72 = .ok (.aload_n 0, 1) := by decide +kernel
theorem dX8_window_73 : decode cX8_window 73 = .ok (.getfield 7, 3) := by decide +kernel
theorem dX8_window_76 : decode cX8_window 76 = .ok (.bipush 35, 2) := by decide +kernel
theorem dX8_window_78 : decode cX8_window 78 = .ok (.iload_n 1, 1) := by decide +kernel
theorem dX8_window_79 : decode cX8_window 79 = .ok (.iadd, 1) := by decide +kernel
theorem dX8_window_80 : decode cX8_window 80 = .ok (.iaload, 1) := by decide +kernel
theorem dX8_window_81 : decode cX8_window 81 = .ok (.ireturn, 1) := by decide +kernel
