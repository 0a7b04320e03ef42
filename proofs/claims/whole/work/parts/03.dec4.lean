theorem dJ6_bitCount_0f7a4_0 : decode cJ6_bitCount_0f7a4 0 = .ok (.iload_n 0, 1) := by decide +kernel
theorem dJ6_bitCount_0f7a4_1 : decode cJ6_bitCount_0f7a4 1 = .ok (.iload_n 0, 1) := by decide +kernel
theorem dJ6_bitCount_0f7a4_2 : decode cJ6_bitCount_0f7a4 2 = .ok (.iconst 1, 1) := by decide +kernel
theorem dJ6_bitCount_0f7a4_3 : decode cJ6_bitCount_0f7a4 3 = .ok (.iushr, 1) := by decide +kernel
theorem dJ6_bitCount_0f7a4_4 : decode cJ6_bitCount_0f7a4 4 = .ok (.ldc_w 265, 3) := by decide +kernel
theorem dJ6_bitCount_0f7a4_7 : decode cJ6_bitCount_0f7a4 7 = .ok (.iand, 1) := by decide +kernel
theorem dJ6_bitCount_0f7a4_8 : decode cJ6_bitCount_0f7a4 8 = .ok (.isub, 1) := by decide +kernel
theorem dJ6_bitCount_0f7a4_9 : decode cJ6_bitCount_0f7a4 9 = .ok (.istore_n 0, 1) := by decide +kernel
theorem dJ6_bitCount_0f7a4_10 : decode cJ6_bitCount_0f7a4 10 = .ok (.iload_n 0, 1) := by decide +kernel
theorem dJ6_bitCount_0f7a4_11 : decode cJ6_bitCount_0f7a4 11 = .ok (.ldc_w 266, 3) := by decide +kernel
theorem dJ6_bitCount_0f7a4_14 : decode cJ6_bitCount_0f7a4 14 = .ok (.iand, 1) := by decide +kernel
theorem dJ6_bitCount_0f7a4_15 : decode cJ6_bitCount_0f7a4 15 = .ok (.iload_n 0, 1) := by decide +kernel
theorem dJ6_bitCount_0f7a4_16 : decode cJ6_bitCount_0f7a4 16 = .ok (.iconst 2, 1) := by decide +kernel
theorem dJ6_bitCount_0f7a4_17 : decode cJ6_bitCount_0f7a4 17 = .ok (.iushr, 1) := by decide +kernel
theorem dJ6_bitCount_0f7a4_18 : decode cJ6_bitCount_0f7a4 18 = .ok (.ldc_w 266, 3) := by decide +kernel
theorem dJ6_bitCount_0f7a4_21 : decode cJ6_bitCount_0f7a4 21 = .ok (.iand, 1) := by decide +kernel
theorem dJ6_bitCount_0f7a4_22 : decode cJ6_bitCount_0f7a4 22 = .ok (.iadd, 1) := by decide +kernel
theorem dJ6_bitCount_0f7a4_23 : decode cJ6_bitCount_0f7a4 23 = .ok (.istore_n 0, 1) := by decide +kernel
theorem dJ6_bitCount_0f7a4_24 : decode cJ6_bitCount_0f7a4 24 = .ok (.iload_n 0, 1) := by decide +kernel
theorem dJ6_bitCount_0f7a4_25 : decode cJ6_bitCount_0f7a4 25 = .ok (.iload_n 0, 1) := by decide +kernel
theorem dJ6_bitCount_0f7a4_26 : decode cJ6_bitCount_0f7a4 26 = .ok (.iconst 4, 1) := by decide +kernel
theorem dJ6_bitCount_0f7a4_27 : decode cJ6_bitCount_0f7a4 27 = .ok (.iushr, 1) := by decide +kernel
theorem dJ6_bitCount_0f7a4_28 : decode cJ6_bitCount_0f7a4 28 = .ok (.iadd, 1) := by decide +kernel
theorem dJ6_bitCount_0f7a4_29 : decode cJ6_bitCount_0f7a4 29 = .ok (.ldc_w 267, 3) := by decide +kernel
theorem dJ6_bitCount_0f7a4_32 : decode cJ6_bitCount_0f7a4 32 = .ok (.iand, 1) := by decide +kernel
theorem dJ6_bitCount_0f7a4_33 : decode cJ6_bitCount_0f7a4 33 = .ok (.istore_n 0, 1) := by decide +kernel
theorem dJ6_bitCount_0f7a4_34 : decode cJ6_bitCount_0f7a4 34 = .ok (.iload_n 0, 1) := by decide +kernel
theorem dJ6_bitCount_0f7a4_35 : decode cJ6_bitCount_0f7a4 35 = .ok (.iload_n 0, 1) := by decide +kernel
theorem dJ6_bitCount_0f7a4_36 : decode cJ6_bitCount_0f7a4 36 = .ok (.bipush 8, 2) := by decide +kernel
theorem dJ6_bitCount_0f7a4_38 : decode cJ6_bitCount_0f7a4 38 = .ok (.iushr, 1) := by decide +kernel
theorem dJ6_bitCount_0f7a4_39 : decode cJ6_bitCount_0f7a4 39 = .ok (.iadd, 1) := by decide +kernel
theorem dJ6_bitCount_0f7a4_40 : decode cJ6_bitCount_0f7a4 40 = .ok (.istore_n 0, 1) := by decide +kernel
theorem dJ6_bitCount_0f7a4_41 : decode cJ6_bitCount_0f7a4 41 = .ok (.iload_n 0, 1) := by decide +kernel
theorem dJ6_bitCount_0f7a4_42 : decode cJ6_bitCount_0f7a4 42 = .ok (.iload_n 0, 1) := by decide +kernel
theorem dJ6_bitCount_0f7a4_43 : decode cJ6_bitCount_0f7a4 43 = .ok (.bipush 16, 2) := by decide +kernel
theorem dJ6_bitCount_0f7a4_45 : decode cJ6_bitCount_0f7a4 45 = .ok (.iushr, 1) := by decide +kernel
theorem dJ6_bitCount_0f7a4_46 : decode cJ6_bitCount_0f7a4 46 = .ok (.iadd, 1) := by decide +kernel
theorem dJ6_bitCount_0f7a4_47 : decode cJ6_bitCount_0f7a4 47 = .ok (.istore_n 0, 1) := by decide +kernel
theorem dJ6_bitCount_0f7a4_48 : decode cJ6_bitCount_0f7a4 48 = .ok (.iload_n 0, 1) := by decide +kernel
theorem dJ6_bitCount_0f7a4_49 : decode cJ6_bitCount_0f7a4 49 = .ok (.bipush 63, 2) := by decide +kernel
theorem dJ6_bitCount_0f7a4_51 : decode cJ6_bitCount_0f7a4 51 = .ok (.iand, 1) := by decide +kernel
theorem dJ6_bitCount_0f7a4_52 : decode cJ6_bitCount_0f7a4 52 = .ok (.ireturn, 1) := by decide +kernel
theorem dJ7_fill_53178_0 : decode cJ7_fill_53178 0 = .ok (.iconst 0, 1) := by decide +kernel
theorem dJ7_fill_53178_1 : decode cJ7_fill_53178 1 = .ok (.istore_n 2, 1) := by decide +kernel
theorem dJ7_fill_53178_2 : decode cJ7_fill_53178 2 = .ok (.aload_n 0, 1) := by decide +kernel
theorem dJ7_fill_53178_3 : decode cJ7_fill_53178 3 = .ok (.arraylength, 1) := by decide +kernel
theorem dJ7_fill_53178_4 : decode cJ7_fill_53178 4 = .ok (.istore_n 3, 1) := by decide +kernel
theorem dJ7_fill_53178_5 : decode cJ7_fill_53178 5 = .ok (.iload_n 2, 1) := by decide +kernel
theorem dJ7_fill_53178_6 : decode cJ7_fill_53178 6 = .ok (.iload_n 3, 1) := by decide +kernel
theorem dJ7_fill_53178_7 : decode cJ7_fill_53178 7 = .ok (.if_icmp .ge 13, 3) := by decide +kernel
theorem dJ7_fill_53178_10 : decode cJ7_fill_53178 10 = .ok (.aload_n 0, 1) := by decide +kernel
theorem dJ7_fill_53178_11 : decode cJ7_fill_53178 11 = .ok (.iload_n 2, 1) := by decide +kernel
theorem dJ7_fill_53178_12 : decode cJ7_fill_53178 12 = .ok (.iload_n 1, 1) := by decide +kernel
theorem dJ7_fill_53178_13 : decode cJ7_fill_53178 13 = .ok (.iastore, 1) := by decide +kernel
theorem dJ7_fill_53178_14 : decode cJ7_fill_53178 14 = .ok (.iinc 2 1, 3) := by decide +kernel
theorem dJ7_fill_53178_17 : decode cJ7_fill_53178 17 = .ok (.goto (-12), 3) := by decide +kernel
theorem dJ7_fill_53178_20 : decode cJ7_fill_53178 20 = .ok (.return_, 1) := by decide +kernel
theorem dJ9_min_7cf53_0 : decode cJ9_min_7cf53 0 = .ok (.iload_n 0, 1) := by decide +kernel
theorem dJ9_min_7cf53_1 : decode cJ9_min_7cf53 1 = .ok (.iload_n 1, 1) := by decide +kernel
theorem dJ9_min_7cf53_2 : decode cJ9_min_7cf53 2 = .ok (.if_icmp .gt 7, 3) := by decide +kernel
theorem dJ9_min_7cf53_5 : decode cJ9_min_7cf53 5 = .ok (.iload_n 0, 1) := by decide +kernel
theorem dJ9_min_7cf53_6 : decode cJ9_min_7cf53 6 = .ok (.goto 4, 3) := by decide +kernel
theorem dJ9_min_7cf53_9 : decode cJ9_min_7cf53 9 = .ok (.iload_n 1, 1) := by decide +kernel
theorem dJ9_min_7cf53_10 : decode cJ9_min_7cf53 10 = .ok (.ireturn, 1) := by decide +kernel
set_option maxRecDepth 20000 in
theorem ggX0_init_X4_init : GoodIn wsX0_init wsX4_init := goodIn_r _ [9, 10, 2, 3, 11, 12, 13, 14, 15, 16, 20, 21, 22, 23, 24, 25, 26, 27, 28, 29] (by decide +kernel) (by decide +kernel)
set_option maxRecDepth 20000 in
theorem gX0_init_X4_init_n17 : GoodIn wsX0_init (wsX4_init) := ggX0_init_X4_init
theorem dX0_init_0 : decode cX0_init 0 = .ok (.aload_n 0, 1) := by decide +kernel
theorem dX0_init_1 : decode cX0_init 1 = .ok (.invokespecial 3, 3) := by decide +kernel
theorem dX0_init_4 : decode cX0_init 4 = .ok (.aload_n 0, 1) := by decide +kernel
theorem dX0_init_5 : decode cX0_init 5 = .ok (.bipush 24, 2) := by decide +kernel
theorem dX0_init_7 : decode cX0_init 7 = .ok (.anewarray 9, 3) := by decide +kernel
theorem dX0_init_10 : decode cX0_init 10 = .ok (.putfield 11, 3) := by decide +kernel
theorem dX0_init_13 : decode cX0_init 13 = .ok (.iconst 0, 1) := by decide +kernel
theorem dX0_init_14 : decode cX0_init 14 = .ok (.istore_n 1, 1) := by decide +kernel
theorem dX0_init_15 : decode cX0_init 15 = .ok (.iload_n 1, 1) := by decide +kernel
theorem dX0_init_16 : decode cX0_init 16 = .ok (.bipush 24, 2) := by decide +kernel
theorem dX0_init_18 : decode cX0_init 18 = .ok (.if_icmp .ge 22, 3) := by decide +kernel
theorem dX0_init_21 : decode cX0_init 21 = .ok (.aload_n 0, 1) := by decide +kernel
theorem dX0_init_22 : decode cX0_init 22 = .ok (.getfield 11, 3) := by decide +kernel
theorem dX0_init_25 : decode cX0_init 25 = .ok (.iload_n 1, 1) := by decide +kernel
theorem dX0_init_26 : decode cX0_init 26 = .ok (.new 9, 3) := by decide +kernel
theorem dX0_init_29 : decode cX0_init 29 = .ok (.dup, 1) := by decide +kernel
theorem dX0_init_30 : decode cX0_init 30 = .ok (.invokespecial 17, 3) := by decide +kernel
theorem dX0_init_33 : decode cX0_init 33 = .ok (.aastore, 1) := by decide +kernel
theorem dX0_init_34 : decode cX0_init 34 = .ok (.iinc 1 1, 3) := by decide +kernel
theorem dX0_init_37 : decode cX0_init 37 = .ok (.goto (-22), 3) := by decide +kernel
theorem dX0_init_40 : decode cX0_init 40 = .ok (.return_, 1) := by decide +kernel
set_option maxRecDepth 20000 in
theorem ggX0_keep_X4_take : GoodIn wsX0_keep wsX4_take := goodIn_r _ [12, 13, 14, 15, 16, 17, 18, 19, 20, 21, 22, 23, 24, 25, 26, 30, 31, 32, 33, 34, 35, 36, 37, 38, 39] (by decide +kernel) (by decide +kernel)
set_option maxRecDepth 20000 in
theorem gX0_keep_X4_take : GoodIn wsX0_keep (wsV RX0 22 RX4 yX4_take wsX4_take) := goodIn_app (goodIn_of _ (by decide +kernel)) ggX0_keep_X4_take
theorem dX0_keep_0 : decode cX0_keep 0 = .ok (.aload_n 0, 1) := by decide +kernel
theorem dX0_keep_1 : decode cX0_keep 1 = .ok (.getfield 11, 3) := by decide +kernel
theorem dX0_keep_4 : decode cX0_keep 4 = .ok (.aload_n 0, 1) := by decide +kernel
theorem dX0_keep_5 : decode cX0_keep 5 = .ok (.getfield 18, 3) := by decide +kernel
theorem dX0_keep_8 : decode cX0_keep 8 = .ok (.aaload, 1) := by decide +kernel
theorem dX0_keep_9 : decode cX0_keep 9 = .ok (.aload_n 1, 1) := by decide +kernel
theorem dX0_keep_10 : decode cX0_keep 10 = .ok (.invokevirtual 22, 3) := by decide +kernel
theorem dX0_keep_13 : decode cX0_keep 13 = .ok (.aload_n 0, 1) := by decide +kernel
theorem dX0_keep_14 : decode cX0_keep 14 = .ok (.aload_n 0, 1) := by decide +kernel
theorem dX0_keep_15 : decode cX0_keep 15 = .ok (.getfield 18, 3) := by decide +kernel
theorem dX0_keep_18 : decode cX0_keep 18 = .ok (.iconst 1, 1) := by decide +kernel
theorem dX0_keep_19 : decode cX0_keep 19 = .ok (.iadd, 1) := by decide +kernel
theorem dX0_keep_20 : decode cX0_keep 20 = .ok (.bipush 24, 2) := by decide +kernel
theorem dX0_keep_22 : decode cX0_keep 22 = .ok (.irem, 1) := by decide +kernel
theorem dX0_keep_23 : decode cX0_keep 23 = .ok (.putfield 18, 3) := by decide +kernel
theorem dX0_keep_26 : decode cX0_keep 26 = .ok (.aload_n 0, 1) := by decide +kernel
theorem dX0_keep_27 : decode cX0_keep 27 = .ok (.bipush 24, 2) := by decide +kernel
theorem dX0_keep_29 : decode cX0_keep 29 = .ok (.aload_n 0, 1) := by decide +kernel
theorem dX0_keep_30 : decode cX0_keep 30 = .ok (.getfield 26, 3) := by decide +kernel
theorem dX0_keep_33 : decode cX0_keep 33 = .ok (.iconst 1, 1) := by decide +kernel
theorem dX0_keep_34 : decode cX0_keep 34 = .ok (.iadd, 1) := by decide +kernel
theorem dX0_keep_35 : decode cX0_keep 35 = .ok (.invokestatic 29, 3) := by decide +kernel
theorem dX0_keep_38 : decode cX0_keep 38 = .ok (.putfield 26, 3) := by decide +kernel
theorem dX0_keep_41 : decode cX0_keep 41 = .ok (.return_, 1) := by decide +kernel
set_option maxRecDepth 20000 in
theorem ggX0_takeBack_X4_take : GoodIn wsX0_takeBack wsX4_take := goodIn_r _ [8, 9, 10, 11, 12, 13, 14, 15, 16, 17, 18, 19, 20, 21, 22, 26, 27, 28, 29, 30, 31, 32, 33, 34, 35] (by decide +kernel) (by decide +kernel)
set_option maxRecDepth 20000 in
theorem gX0_takeBack_X4_take : GoodIn wsX0_takeBack (wsV RX0 22 RX4 yX4_take wsX4_take) := goodIn_app (goodIn_of _ (by decide +kernel)) ggX0_takeBack_X4_take
theorem dX0_takeBack_0 : decode cX0_takeBack 0 = .ok (.aload_n 0, 1) := by decide +kernel
theorem dX0_takeBack_1 : decode cX0_takeBack 1 = .ok (.getfield 26, 3) := by decide +kernel
theorem dX0_takeBack_4 : decode cX0_takeBack 4 = .ok (.ifCond .ne 5, 3) := by decide +kernel
theorem dX0_takeBack_7 : decode cX0_takeBack 7 = .ok (.iconst 0, 1) := by decide +kernel
theorem dX0_takeBack_8 : decode cX0_takeBack 8 = .ok (.ireturn, 1) := by decide +kernel
theorem dX0_takeBack_9 : decode cX0_takeBack 9 = .ok (.aload_n 0, 1) := by decide +kernel
theorem dX0_takeBack_10 : decode cX0_takeBack 10 = .ok (.aload_n 0, 1) := by decide +kernel
theorem dX0_takeBack_11 : decode cX0_takeBack 11 = .ok (.getfield 18, 3) := by decide +kernel
theorem dX0_takeBack_14 : decode cX0_takeBack 14 = .ok (.bipush 24, 2) := by decide +kernel
theorem dX0_takeBack_16 : decode cX0_takeBack 16 = .ok (.iadd, 1) := by decide +kernel
theorem dX0_takeBack_17 : decode cX0_takeBack 17 = .ok (.iconst 1, 1) := by decide +kernel
theorem dX0_takeBack_18 : decode cX0_takeBack 18 = .ok (.isub, 1) := by decide +kernel
theorem dX0_takeBack_19 : decode cX0_takeBack 19 = .ok (.bipush 24, 2) := by decide +kernel
theorem dX0_takeBack_21 : decode cX0_takeBack 21 = .ok (.irem, 1) := by decide +kernel
theorem dX0_takeBack_22 : decode cX0_takeBack 22 = .ok (.putfield 18, 3) := by decide +kernel
theorem dX0_takeBack_25 : decode cX0_takeBack 25 = .ok (.aload_n 0, 1) := by decide +kernel
theorem dX0_takeBack_26 : decode cX0_takeBack 26 = .ok (.dup, 1) := by decide +kernel
theorem dX0_takeBack_27 : decode cX0_takeBack 27 = .ok (.getfield 26, 3) := by decide +kernel
theorem dX0_takeBack_30 : decode cX0_takeBack 30 = .ok (.iconst 1, 1) := by decide +kernel
theorem dX0_takeBack_31 : decode cX0_takeBack 31 = .ok (.isub, 1) := by decide +kernel
theorem dX0_takeBack_32 : decode cX0_takeBack 32 = .ok (.putfield 26, 3) := by decide +kernel
theorem dX0_takeBack_35 : decode cX0_takeBack 35 = .ok (.aload_n 1, 1) := by decide +kernel
theorem dX0_takeBack_36 : decode cX0_takeBack 36 = .ok (.aload_n 0, 1) := by decide +kernel
theorem dX0_takeBack_37 : decode cX0_takeBack 37 = .ok (.getfield 11, 3) := by decide +kernel
theorem dX0_takeBack_40 : decode cX0_takeBack 40 = .ok (.aload_n 0, 1) := by decide +kernel
theorem dX0_takeBack_41 : decode cX0_takeBack 41 = .ok (.getfield 18, 3) := by decide +kernel
theorem dX0_takeBack_44 : decode cX0_takeBack 44 = .ok (.aaload, 1) := by decide +kernel
theorem dX0_takeBack_45 : decode cX0_takeBack 45 = .ok (.invokevirtual 22, 3) := by decide +kernel
theorem dX0_takeBack_48 : decode cX0_takeBack 48 = .ok (.iconst 1, 1) := by decide +kernel
theorem dX0_takeBack_49 : decode cX0_takeBack 49 = .ok (.ireturn, 1) := by decide +kernel
theorem dX0_forget_0 : decode cX0_forget 0 = .ok (.aload_n 0, 1) := by decide +kernel
theorem dX0_forget_1 : decode cX0_forget 1 = .ok (.iconst 0, 1) := by decide +kernel
theorem dX0_forget_2 : decode cX0_forget 2 = .ok (.putfield 26, 3) := by decide +kernel
theorem dX0_forget_5 : decode cX0_forget 5 = .ok (.return_, 1) := by decide +kernel
theorem dX2_init_0 : decode cX2_init 0 = .ok (.aload_n 0, 1) := by decide +kernel
theorem dX2_init_1 : decode cX2_init 1 = .ok (.invokespecial 3, 3) := by decide +kernel
theorem dX2_init_4 : decode cX2_init 4 = .ok (.return_, 1) := by decide +kernel
set_option maxRecDepth 20000 in
theorem ggX2_readStreet_X2_readLaw : GoodIn wsX2_readStreet wsX2_readLaw := goodIn_r _ [7, 8, 9, 10, 6, 11, 2, 1, 12, 13, 14, 15, 16, 17, 18, 19, 20, 21, 22, 23, 24, 25, 26, 27, 28, 29, 30, 31, 32, 33, 34, 35, 36, 37, 38, 39, 40, 62, 63, 64, 65, 66, 67, 68, 69, 70, 71, 72, 73, 74, 75, 76] (by decide +kernel) (by decide +kernel)
set_option maxRecDepth 20000 in
theorem gX2_readStreet_X2_readLaw : GoodIn wsX2_readStreet (wsV RX2 18 RX2 yX2_readLaw wsX2_readLaw) := goodIn_app (goodIn_of _ (by decide +kernel)) ggX2_readStreet_X2_readLaw
set_option maxRecDepth 20000 in
theorem ggX2_readStreet_X2_readWindow : GoodIn wsX2_readStreet wsX2_readWindow := goodIn_r _ [44, 2, 45, 46, 47, 6, 48, 1, 49, 12, 13, 14, 15, 16, 17, 18, 19, 50, 51, 52, 20, 21, 22, 23, 24, 25, 26, 27, 28, 29, 30, 8, 9, 10, 11, 53, 54, 55, 34, 56, 36, 57, 58, 59, 60, 61, 67, 68, 69, 70, 71, 72, 73, 74, 75, 76, 62, 63, 64, 65, 66] (by decide +kernel) (by decide +kernel)
set_option maxRecDepth 20000 in
theorem gX2_readStreet_X2_readWindow : GoodIn wsX2_readStreet (wsV RX2 27 RX2 yX2_readWindow wsX2_readWindow) := goodIn_app (goodIn_of _ (by decide +kernel)) ggX2_readStreet_X2_readWindow
theorem dX2_readStreet_0 : decode cX2_readStreet 0 = .ok (.aload_n 0, 1) := by decide +kernel
theorem dX2_readStreet_1 : decode cX2_readStreet 1 = .ok (.iconst 0, 1) := by decide +kernel
theorem dX2_readStreet_2 : decode cX2_readStreet 2 = .ok (.putfield 9, 3) := by decide +kernel
theorem dX2_readStreet_5 : decode cX2_readStreet 5 = .ok (.aload_n 0, 1) := by decide +kernel
theorem dX2_readStreet_6 : decode cX2_readStreet 6 = .ok (.iconst 0, 1) := by decide +kernel
theorem dX2_readStreet_7 : decode cX2_readStreet 7 = .ok (.putfield 15, 3) := by decide +kernel
theorem dX2_readStreet_10 : decode cX2_readStreet 10 = .ok (.aload_n 0, 1) := by decide +kernel
theorem dX2_readStreet_11 : decode cX2_readStreet 11 = .ok (.aload_n 1, 1) := by decide +kernel
theorem dX2_readStreet_12 : decode cX2_readStreet 12 = .ok (.aload_n 2, 1) := by decide +kernel
theorem dX2_readStreet_13 : decode cX2_readStreet 13 = .ok (.invokevirtual 18, 3) := by decide +kernel
theorem dX2_readStreet_16 : decode cX2_readStreet 16 = .ok (.iconst 0, 1) := by decide +kernel
theorem dX2_readStreet_17 : decode cX2_readStreet 17 = .ok (.istore_n 3, 1) := by decide +kernel
theorem dX2_readStreet_18 : decode cX2_readStreet 18 = .ok (.iload_n 3, 1) := by decide +kernel
theorem dX2_readStreet_19 : decode cX2_readStreet 19 = .ok (.bipush 10, 2) := by decide +kernel
theorem dX2_readStreet_21 : decode cX2_readStreet 21 = .ok (.if_icmp .gt 39, 3) := by decide +kernel
theorem dX2_readStreet_24 : decode cX2_readStreet 24 = .ok (.aload_n 0, 1) := by decide +kernel
theorem dX2_readStreet_25 : decode cX2_readStreet 25 = .ok (.getfield 15, 3) := by decide +kernel
theorem dX2_readStreet_28 : decode cX2_readStreet 28 = .ok (.ifCond .ne 32, 3) := by decide +kernel
theorem dX2_readStreet_31 : decode cX2_readStreet 31 = .ok (.iload_n 3, 1) := by decide +kernel
theorem dX2_readStreet_32 : decode cX2_readStreet 32 = .ok (.iconst 2, 1) := by decide +kernel
theorem dX2_readStreet_33 : decode cX2_readStreet 33 = .ok (.if_icmp .lt 15, 3) := by decide +kernel
theorem dX2_readStreet_36 : decode cX2_readStreet 36 = .ok (.aload_n 0, 1) := by decide +kernel
theorem dX2_readStreet_37 : decode cX2_readStreet 37 = .ok (.getfield 9, 3) := by decide +kernel
theorem dX2_readStreet_40 : decode cX2_readStreet 40 = .ok (.aload_n 1, 1) := by decide +kernel
theorem dX2_readStreet_41 : decode cX2_readStreet 41 = .ok (.getfield 22, 3) := by decide +kernel
theorem dX2_readStreet_44 : decode cX2_readStreet 44 = .ok (.if_icmp .ne 4, 3) := by decide +kernel
theorem dX2_readStreet_47 : decode cX2_readStreet 47 = .ok (.return_, 1) := by decide +kernel
theorem dX2_readStreet_48 : decode cX2_readStreet 48 = .ok (.aload_n 0, 1) := by decide +kernel
theorem dX2_readStreet_49 : decode cX2_readStreet 49 = .ok (.aload_n 1, 1) := by decide +kernel
theorem dX2_readStreet_50 : decode cX2_readStreet 50 = .ok (.aload_n 2, 1) := by decide +kernel
theorem dX2_readStreet_51 : decode cX2_readStreet 51 = .ok (.invokevirtual 27, 3) := by decide +kernel
theorem dX2_readStreet_54 : decode cX2_readStreet 54 = .ok (.iinc 3 1, 3) := by decide +kernel
theorem dX2_readStreet_57 : decode cX2_readStreet 57 = .ok (.goto (-39), 3) := by decide +kernel
theorem dX2_readStreet_60 : decode cX2_readStreet 60 = .ok (.return_, 1) := by decide +kernel
set_option maxRecDepth 20000 in
theorem ggX2_readLaw_X2_readByte : GoodIn wsX2_readLaw wsX2_readByte := goodIn_r _ [5, 6, 7, 8, 9, 10, 11, 12, 13, 14, 15, 16, 17, 18, 4, 19, 37, 38, 39, 40, 41] (by decide +kernel) (by decide +kernel)
set_option maxRecDepth 20000 in
theorem gX2_readLaw_X2_readByte : GoodIn wsX2_readLaw (wsV RX2 30 RX2 yX2_readByte wsX2_readByte) := goodIn_app (goodIn_of _ (by decide +kernel)) ggX2_readLaw_X2_readByte
set_option maxRecDepth 20000 in
theorem ggX2_readLaw_X2_readNumber : GoodIn wsX2_readLaw wsX2_readNumber := goodIn_r _ [23, 6, 7, 8, 9, 10, 11, 12, 13, 14, 15, 16, 17, 18, 4, 19, 24, 25, 26, 37, 38, 39, 40, 41] (by decide +kernel) (by decide +kernel)
set_option maxRecDepth 20000 in
theorem gX2_readLaw_X2_readNumber : GoodIn wsX2_readLaw (wsV RX2 34 RX2 yX2_readNumber wsX2_readNumber) := goodIn_app (goodIn_of _ (by decide +kernel)) ggX2_readLaw_X2_readNumber
set_option maxRecDepth 20000 in
theorem ggX2_readLaw_X4_begin : GoodIn wsX2_readLaw wsX4_begin := goodIn_r _ [31, 32, 33, 34, 35, 36, 42, 43, 44, 45, 46, 47, 48, 49, 50, 51] (by decide +kernel) (by decide +kernel)
set_option maxRecDepth 20000 in
theorem gX2_readLaw_X4_begin : GoodIn wsX2_readLaw (wsV RX2 38 RX4 yX4_begin wsX4_begin) := goodIn_app (goodIn_of _ (by decide +kernel)) ggX2_readLaw_X4_begin
theorem dX2_readLaw_0 : decode cX2_readLaw 0 = .ok (.aload_n 0, 1) := by decide +kernel
theorem dX2_readLaw_1 : decode cX2_readLaw 1 = .ok (.aload_n 1, 1) := by decide +kernel
theorem dX2_readLaw_2 : decode cX2_readLaw 2 = .ok (.bipush 101, 2) := by decide +kernel
theorem dX2_readLaw_4 : decode cX2_readLaw 4 = .ok (.invokevirtual 30, 3) := by decide +kernel
theorem dX2_readLaw_7 : decode cX2_readLaw 7 = .ok (.aload_n 0, 1) := by decide +kernel
theorem dX2_readLaw_8 : decode cX2_readLaw 8 = .ok (.aload_n 1, 1) := by decide +kernel
theorem dX2_readLaw_9 : decode cX2_readLaw 9 = .ok (.iconst 2, 1) := by decide +kernel
theorem dX2_readLaw_10 : decode cX2_readLaw 10 = .ok (.bipush 24, 2) := by decide +kernel
theorem dX2_readLaw_12 : decode cX2_readLaw 12 = .ok (.invokevirtual 34, 3) := by decide +kernel
theorem dX2_readLaw_15 : decode cX2_readLaw 15 = .ok (.istore_n 3, 1) := by decide +kernel
theorem dX2_readLaw_16 : decode cX2_readLaw 16 = .ok (.aload_n 0, 1) := by decide +kernel
theorem dX2_readLaw_17 : decode cX2_readLaw 17 = .ok (.aload_n 1, 1) := by decide +kernel
theorem dX2_readLaw_18 : decode cX2_readLaw 18 = .ok (.bipush 44, 2) := by decide +kernel
theorem dX2_readLaw_20 : decode cX2_readLaw 20 = .ok (.invokevirtual 30, 3) := by decide +kernel
theorem dX2_readLaw_23 : decode cX2_readLaw 23 = .ok (.aload_n 0, 1) := by decide +kernel
theorem dX2_readLaw_24 : decode cX2_readLaw 24 = .ok (.aload_n 1, 1) := by decide +kernel
theorem dX2_readLaw_25 : decode cX2_readLaw 25 = .ok (.iconst 0, 1) := by decide +kernel
theorem dX2_readLaw_26 : decode cX2_readLaw 26 = .ok (.iconst 3, 1) := by decide +kernel
theorem dX2_readLaw_27 : decode cX2_readLaw 27 = .ok (.invokevirtual 34, 3) := by decide +kernel
theorem dX2_readLaw_30 : decode cX2_readLaw 30 = .ok (.istore 4, 2) := by decide +kernel
theorem dX2_readLaw_32 : decode cX2_readLaw 32 = .ok (.aload_n 0, 1) := by decide +kernel
theorem dX2_readLaw_33 : decode cX2_readLaw 33 = .ok (.aload_n 1, 1) := by decide +kernel
theorem dX2_readLaw_34 : decode cX2_readLaw 34 = .ok (.bipush 59, 2) := by decide +kernel
theorem dX2_readLaw_36 : decode cX2_readLaw 36 = .ok (.invokevirtual 30, 3) := by decide +kernel
theorem dX2_readLaw_39 : decode cX2_readLaw 39 = .ok (.aload_n 2, 1) := by decide +kernel
theorem dX2_readLaw_40 : decode cX2_readLaw 40 = .ok (.iload_n 3, 1) := by decide +kernel
theorem dX2_readLaw_41 : decode cX2_readLaw 41 = .ok (.iload 4, 2) := by decide +kernel
theorem dX2_readLaw_43 : decode cX2_readLaw 43 = .ok (.invokevirtual 38, 3) := by decide +kernel
theorem dX2_readLaw_46 : decode cX2_readLaw 46 = .ok (.return_, 1) := by decide +kernel
set_option maxRecDepth 20000 in
theorem ggX2_readWindow_X2_readSort : GoodIn wsX2_readWindow wsX2_readSort := goodIn_r _ [6, 7, 8, 9, 10, 11, 12, 13, 14, 15, 16, 17, 18, 5, 19, 20, 21, 22, 23, 1, 56, 57, 58, 59, 60] (by decide +kernel) (by decide +kernel)
set_option maxRecDepth 20000 in
theorem gX2_readWindow_X2_readSort : GoodIn wsX2_readWindow (wsV RX2 47 RX2 yX2_readSort wsX2_readSort) := goodIn_app (goodIn_of _ (by decide +kernel)) ggX2_readWindow_X2_readSort
set_option maxRecDepth 20000 in
theorem ggX2_readWindow_X2_readNumber : GoodIn wsX2_readWindow wsX2_readNumber := goodIn_r _ [27, 1, 7, 9, 10, 11, 12, 13, 14, 15, 16, 20, 21, 22, 5, 23, 28, 29, 30, 56, 57, 58, 59, 60] (by decide +kernel) (by decide +kernel)
set_option maxRecDepth 20000 in
theorem gX2_readWindow_X2_readNumber : GoodIn wsX2_readWindow (wsV RX2 34 RX2 yX2_readNumber wsX2_readNumber) := goodIn_app (goodIn_of _ (by decide +kernel)) ggX2_readWindow_X2_readNumber
set_option maxRecDepth 20000 in
theorem ggX2_readWindow_X2_readByte : GoodIn wsX2_readWindow wsX2_readByte := goodIn_r _ [34, 1, 7, 9, 10, 11, 12, 13, 14, 15, 16, 20, 21, 22, 5, 23, 56, 57, 58, 59, 60] (by decide +kernel) (by decide +kernel)
set_option maxRecDepth 20000 in
theorem gX2_readWindow_X2_readByte : GoodIn wsX2_readWindow (wsV RX2 30 RX2 yX2_readByte wsX2_readByte) := goodIn_app (goodIn_of _ (by decide +kernel)) ggX2_readWindow_X2_readByte
set_option maxRecDepth 20000 in
theorem ggX2_readWindow_X4_build : GoodIn wsX2_readWindow wsX4_build := goodIn_r _ [39, 40, 41, 42, 43, 44, 45, 46, 47, 48, 49, 50, 51, 52, 53, 54, 55] (by decide +kernel) (by decide +kernel)
set_option maxRecDepth 20000 in
theorem gX2_readWindow_X4_build : GoodIn wsX2_readWindow (wsV RX2 51 RX4 yX4_build wsX4_build) := goodIn_app (goodIn_of _ (by decide +kernel)) ggX2_readWindow_X4_build
theorem dX2_readWindow_0 : decode cX2_readWindow 0 = .ok (.aload_n 0, 1) := by decide +kernel
theorem dX2_readWindow_1 : decode cX2_readWindow 1 = .ok (.aload_n 1, 1) := by decide +kernel
theorem dX2_readWindow_2 : decode cX2_readWindow 2 = .ok (.aload_n 2, 1) := by decide +kernel
theorem dX2_readWindow_3 : decode cX2_readWindow 3 = .ok (.getfield 44, 3) := by decide +kernel
theorem dX2_readWindow_6 : decode cX2_readWindow 6 = .ok (.bipush 10, 2) := by decide +kernel
theorem dX2_readWindow_8 : decode cX2_readWindow 8 = .ok (.if_icmp .ge 7, 3) := by decide +kernel
theorem dX2_readWindow_11 : decode cX2_readWindow 11 = .ok (.iconst 1, 1) := by decide +kernel
theorem dX2_readWindow_12 : decode cX2_readWindow 12 = .ok (.goto 4, 3) := by decide +kernel
theorem dX2_readWindow_15 : decode cX2_readWindow 15 = .ok (.iconst 0, 1) := by decide +kernel
theorem dX2_readWindow_16 : decode cX2_readWindow 16 = .ok (.invokevirtual 47, 3) := by decide +kernel
theorem dX2_readWindow_19 : decode cX2_readWindow 19 = .ok (.istore_n 3, 1) := by decide +kernel
theorem dX2_readWindow_20 : decode cX2_readWindow 20 = .ok (.aload_n 0, 1) := by decide +kernel
theorem dX2_readWindow_21 : decode cX2_readWindow 21 = .ok (.aload_n 1, 1) := by decide +kernel
theorem dX2_readWindow_22 : decode cX2_readWindow 22 = .ok (.iconst 1, 1) := by decide +kernel
theorem dX2_readWindow_23 : decode cX2_readWindow 23 = .ok (.bipush 24, 2) := by decide +kernel
theorem dX2_readWindow_25 : decode cX2_readWindow 25 = .ok (.invokevirtual 34, 3) := by decide +kernel
theorem dX2_readWindow_28 : decode cX2_readWindow 28 = .ok (.istore 4, 2) := by decide +kernel
theorem dX2_readWindow_30 : decode cX2_readWindow 30 = .ok (.aload_n 0, 1) := by decide +kernel
theorem dX2_readWindow_31 : decode cX2_readWindow 31 = .ok (.aload_n 1, 1) := by decide +kernel
theorem dX2_readWindow_32 : decode cX2_readWindow 32 = .ok (.bipush 44, 2) := by decide +kernel
theorem dX2_readWindow_34 : decode cX2_readWindow 34 = .ok (.invokevirtual 30, 3) := by decide +kernel
theorem dX2_readWindow_37 : decode cX2_readWindow 37 = .ok (.aload_n 0, 1) := by decide +kernel
theorem dX2_readWindow_38 : decode cX2_readWindow 38 = .ok (.aload_n 1, 1) := by decide +kernel
theorem dX2_readWindow_39 : decode cX2_readWindow 39 = .ok (.iconst 0, 1) := by decide +kernel
theorem dX2_readWindow_40 : decode cX2_readWindow 40 = .ok (.bipush 9, 2) := by decide +kernel
theorem dX2_readWindow_42 : decode cX2_readWindow 42 = .ok (.invokevirtual 34, 3) := by decide +kernel
theorem dX2_readWindow_45 : decode cX2_readWindow 45 = .ok (.istore 5, 2) := by decide +kernel
theorem dX2_readWindow_47 : decode cX2_readWindow 47 = .ok (.aload_n 0, 1) := by decide +kernel
theorem dX2_readWindow_48 : decode cX2_readWindow 48 = .ok (.aload_n 1, 1) := by decide +kernel
theorem dX2_readWindow_49 : decode cX2_readWindow 49 = .ok (.bipush 44, 2) := by decide +kernel
theorem dX2_readWindow_51 : decode cX2_readWindow 51 = .ok (.invokevirtual 30, 3) := by decide +kernel
theorem dX2_readWindow_54 : decode cX2_readWindow 54 = .ok (.aload_n 0, 1) := by decide +kernel
theorem dX2_readWindow_55 : decode cX2_readWindow 55 = .ok (.aload_n 1, 1) := by decide +kernel
theorem dX2_readWindow_56 : decode cX2_readWindow 56 = .ok (.iconst 0, 1) := by decide +kernel
theorem dX2_readWindow_57 : decode cX2_readWindow 57 = .ok (.bipush 9, 2) := by decide +kernel
theorem dX2_readWindow_59 : decode cX2_readWindow 59 = .ok (.invokevirtual 34, 3) := by decide +kernel
theorem dX2_readWindow_62 : decode cX2_readWindow 62 = .ok (.istore 6, 2) := by decide +kernel
theorem dX2_readWindow_64 : decode cX2_readWindow 64 = .ok (.aload_n 0, 1) := by decide +kernel
theorem dX2_readWindow_65 : decode cX2_readWindow 65 = .ok (.aload_n 1, 1) := by decide +kernel
theorem dX2_readWindow_66 : decode cX2_readWindow 66 = .ok (.bipush 59, 2) := by decide +kernel
theorem dX2_readWindow_68 : decode cX2_readWindow 68 = .ok (.invokevirtual 30, 3) := by decide +kernel
theorem dX2_readWindow_71 : decode cX2_readWindow 71 = .ok (.aload_n 0, 1) := by decide +kernel
theorem dX2_readWindow_72 : decode cX2_readWindow 72 = .ok (.getfield 15, 3) := by decide +kernel
theorem dX2_readWindow_75 : decode cX2_readWindow 75 = .ok (.ifCond .ne 14, 3) := by decide +kernel
theorem dX2_readWindow_78 : decode cX2_readWindow 78 = .ok (.aload_n 2, 1) := by decide +kernel
theorem dX2_readWindow_79 : decode cX2_readWindow 79 = .ok (.iload_n 3, 1) := by decide +kernel
theorem dX2_readWindow_80 : decode cX2_readWindow 80 = .ok (.iload 4, 2) := by decide +kernel
theorem dX2_readWindow_82 : decode cX2_readWindow 82 = .ok (.iload 5, 2) := by decide +kernel
theorem dX2_readWindow_84 : decode cX2_readWindow 84 = .ok (.iload 6, 2) := by decide +kernel
theorem dX2_readWindow_86 : decode cX2_readWindow 86 = .ok (.invokevirtual 51, 3) := by decide +kernel
theorem dX2_readWindow_89 : decode cX2_readWindow 89 = .ok (.return_, 1) := by decide +kernel
set_option maxRecDepth 20000 in
theorem ggX2_readSort_X5_at : GoodIn wsX2_readSort wsX5_at := goodIn_r _ [7, 8, 9, 10, 22, 23, 24] (by decide +kernel) (by decide +kernel)
set_option maxRecDepth 20000 in
theorem gX2_readSort_X5_at : GoodIn wsX2_readSort (wsV RX2 55 RX5 yX5_at wsX5_at) := goodIn_app (goodIn_of _ (by decide +kernel)) ggX2_readSort_X5_at
set_option maxRecDepth 20000 in
theorem ggX2_readSort_X2_kindOf : GoodIn wsX2_readSort wsX2_kindOf := goodIn_r _ [14, 2] (by decide +kernel) (by decide +kernel)
set_option maxRecDepth 20000 in
theorem gX2_readSort_X2_kindOf : GoodIn wsX2_readSort (va_wsS RX2 58 yX2_kindOf wsX2_kindOf) := goodIn_app (goodIn_of _ (by decide +kernel)) ggX2_readSort_X2_kindOf
set_option maxRecDepth 20000 in
theorem ggX2_readSort_X2_fail : GoodIn wsX2_readSort wsX2_fail := goodIn_r _ [18, 19, 20, 21] (by decide +kernel) (by decide +kernel)
set_option maxRecDepth 20000 in
theorem gX2_readSort_X2_fail : GoodIn wsX2_readSort (wsV RX2 62 RX2 yX2_fail wsX2_fail) := goodIn_app (goodIn_of _ (by decide +kernel)) ggX2_readSort_X2_fail
theorem dX2_readSort_0 : decode cX2_readSort 0 = .ok (.aload_n 1, 1) := by decide +kernel
theorem dX2_readSort_1 : decode cX2_readSort 1 = .ok (.aload_n 0, 1) := by decide +kernel
theorem dX2_readSort_2 : decode cX2_readSort 2 = .ok (.getfield 9, 3) := by decide +kernel
theorem dX2_readSort_5 : decode cX2_readSort 5 = .ok (.invokevirtual 55, 3) := by decide +kernel
theorem dX2_readSort_8 : decode cX2_readSort 8 = .ok (.invokestatic 58, 3) := by decide +kernel
theorem dX2_readSort_11 : decode cX2_readSort 11 = .ok (.istore_n 3, 1) := by decide +kernel
theorem dX2_readSort_12 : decode cX2_readSort 12 = .ok (.iload_n 3, 1) := by decide +kernel
theorem dX2_readSort_13 : decode cX2_readSort 13 = .ok (.ldc 61, 2) := by decide +kernel
theorem dX2_readSort_15 : decode cX2_readSort 15 = .ok (.if_icmp .ne 11, 3) := by decide +kernel
theorem dX2_readSort_18 : decode cX2_readSort 18 = .ok (.aload_n 0, 1) := by decide +kernel
theorem dX2_readSort_19 : decode cX2_readSort 19 = .ok (.iconst 1, 1) := by decide +kernel
theorem dX2_readSort_20 : decode cX2_readSort 20 = .ok (.invokevirtual 62, 3) := by decide +kernel
theorem dX2_readSort_23 : decode cX2_readSort 23 = .ok (.goto 25, 3) := by decide +kernel
theorem dX2_readSort_26 : decode cX2_readSort 26 = .ok (.iload_n 2, 1) := by decide +kernel
theorem dX2_readSort_27 : decode cX2_readSort 27 = .ok (.ifCond .ne 11, 3) := by decide +kernel
theorem dX2_readSort_30 : decode cX2_readSort 30 = .ok (.aload_n 0, 1) := by decide +kernel
theorem dX2_readSort_31 : decode cX2_readSort 31 = .ok (.iconst 3, 1) := by decide +kernel
theorem dX2_readSort_32 : decode cX2_readSort 32 = .ok (.invokevirtual 62, 3) := by decide +kernel
theorem dX2_readSort_35 : decode cX2_readSort 35 = .ok (.goto 13, 3) := by decide +kernel
theorem dX2_readSort_38 : decode cX2_readSort 38 = .ok (.aload_n 0, 1) := by decide +kernel
theorem dX2_readSort_39 : decode cX2_readSort 39 = .ok (.dup, 1) := by decide +kernel
theorem dX2_readSort_40 : decode cX2_readSort 40 = .ok (.getfield 9, 3) := by decide +kernel
theorem dX2_readSort_43 : decode cX2_readSort 43 = .ok (.iconst 1, 1) := by decide +kernel
theorem dX2_readSort_44 : decode cX2_readSort 44 = .ok (.iadd, 1) := by decide +kernel
theorem dX2_readSort_45 : decode cX2_readSort 45 = .ok (.putfield 9, 3) := by decide +kernel
theorem dX2_readSort_48 : decode cX2_readSort 48 = .ok (.iload_n 3, 1) := by decide +kernel
theorem dX2_readSort_49 : decode cX2_readSort 49 = .ok (.ireturn, 1) := by decide +kernel
set_option maxRecDepth 20000 in
theorem ggX2_readByte_X5_at : GoodIn wsX2_readByte wsX5_at := goodIn_r _ [7, 8, 9, 10, 18, 19, 20] (by decide +kernel) (by decide +kernel)
set_option maxRecDepth 20000 in
theorem gX2_readByte_X5_at : GoodIn wsX2_readByte (wsV RX2 55 RX5 yX5_at wsX5_at) := goodIn_app (goodIn_of _ (by decide +kernel)) ggX2_readByte_X5_at
set_option maxRecDepth 20000 in
theorem ggX2_readByte_X2_fail : GoodIn wsX2_readByte wsX2_fail := goodIn_r _ [15, 1, 16, 17] (by decide +kernel) (by decide +kernel)
set_option maxRecDepth 20000 in
theorem gX2_readByte_X2_fail : GoodIn wsX2_readByte (wsV RX2 62 RX2 yX2_fail wsX2_fail) := goodIn_app (goodIn_of _ (by decide +kernel)) ggX2_readByte_X2_fail
theorem dX2_readByte_0 : decode cX2_readByte 0 = .ok (.aload_n 0, 1) := by decide +kernel
theorem dX2_readByte_1 : decode cX2_readByte 1 = .ok (.getfield 15, 3) := by decide +kernel
theorem dX2_readByte_4 : decode cX2_readByte 4 = .ok (.ifCond .eq 4, 3) := by decide +kernel
theorem dX2_readByte_7 : decode cX2_readByte 7 = .ok (.return_, 1) := by decide +kernel
theorem dX2_readByte_8 : decode cX2_readByte 8 = .ok (.aload_n 1, 1) := by decide +kernel
theorem dX2_readByte_9 : decode cX2_readByte 9 = .ok (.aload_n 0, 1) := by decide +kernel
theorem dX2_readByte_10 : decode cX2_readByte 10 = .ok (.getfield 9, 3) := by decide +kernel
theorem dX2_readByte_13 : decode cX2_readByte 13 = .ok (.invokevirtual 55, 3) := by decide +kernel
theorem dX2_readByte_16 : decode cX2_readByte 16 = .ok (.iload_n 2, 1) := by decide +kernel
theorem dX2_readByte_17 : decode cX2_readByte 17 = .ok (.if_icmp .ne 16, 3) := by decide +kernel
theorem dX2_readByte_20 : decode cX2_readByte 20 = .ok (.aload_n 0, 1) := by decide +kernel
theorem dX2_readByte_21 : decode cX2_readByte 21 = .ok (.dup, 1) := by decide +kernel
theorem dX2_readByte_22 : decode cX2_readByte 22 = .ok (.getfield 9, 3) := by decide +kernel
theorem dX2_readByte_25 : decode cX2_readByte 25 = .ok (.iconst 1, 1) := by decide +kernel
theorem dX2_readByte_26 : decode cX2_readByte 26 = .ok (.iadd, 1) := by decide +kernel
theorem dX2_readByte_27 : decode cX2_readByte 27 = .ok (.putfield 9, 3) := by decide +kernel
theorem dX2_readByte_30 : decode cX2_readByte 30 = .ok (.goto 8, 3) := by decide +kernel
theorem dX2_readByte_33 : decode cX2_readByte 33 = .ok (.aload_n 0, 1) := by decide +kernel
theorem dX2_readByte_34 : decode cX2_readByte 34 = .ok (.iconst 1, 1) := by decide +kernel
theorem dX2_readByte_35 : decode cX2_readByte 35 = .ok (.invokevirtual 62, 3) := by decide +kernel
theorem dX2_readByte_38 : decode cX2_readByte 38 = .ok (.return_, 1) := by decide +kernel
set_option maxRecDepth 20000 in
theorem ggX2_readNumber_X5_at : GoodIn wsX2_readNumber wsX5_at := goodIn_r _ [7, 8, 9, 10, 21, 22, 23] (by decide +kernel) (by decide +kernel)
set_option maxRecDepth 20000 in
theorem gX2_readNumber_X5_at : GoodIn wsX2_readNumber (wsV RX2 55 RX5 yX5_at wsX5_at) := goodIn_app (goodIn_of _ (by decide +kernel)) ggX2_readNumber_X5_at
set_option maxRecDepth 20000 in
theorem ggX2_readNumber_X2_fail : GoodIn wsX2_readNumber wsX2_fail := goodIn_r _ [15, 1, 19, 20] (by decide +kernel) (by decide +kernel)
set_option maxRecDepth 20000 in
theorem gX2_readNumber_X2_fail : GoodIn wsX2_readNumber (wsV RX2 62 RX2 yX2_fail wsX2_fail) := goodIn_app (goodIn_of _ (by decide +kernel)) ggX2_readNumber_X2_fail
set_option maxRecDepth 20000 in
theorem ggX2_readNumber_X7_isWithin : GoodIn wsX2_readNumber wsX7_isWithin := goodIn_r _ [18] (by decide +kernel) (by decide +kernel)
set_option maxRecDepth 20000 in
theorem gX2_readNumber_X7_isWithin_n66 : GoodIn wsX2_readNumber (wsX7_isWithin) := ggX2_readNumber_X7_isWithin
theorem dX2_readNumber_0 : decode cX2_readNumber 0 = .ok (.aload_n 0, 1) := by decide +kernel
theorem dX2_readNumber_1 : decode cX2_readNumber 1 = .ok (.getfield 15, 3) := by decide +kernel
theorem dX2_readNumber_4 : decode cX2_readNumber 4 = .ok (.ifCond .eq 5, 3) := by decide +kernel
theorem dX2_readNumber_7 : decode cX2_readNumber 7 = .ok (.iconst 0, 1) := by decide +kernel
theorem dX2_readNumber_8 : decode cX2_readNumber 8 = .ok (.ireturn, 1) := by decide +kernel
theorem dX2_readNumber_9 : decode cX2_readNumber 9 = .ok (.iconst 0, 1) := by decide +kernel
theorem dX2_readNumber_10 : decode cX2_readNumber 10 = .ok (.istore 4, 2) := by decide +kernel
theorem dX2_readNumber_12 : decode cX2_readNumber 12 = .ok (.iconst 0, 1) := by decide +kernel
theorem dX2_readNumber_13 : decode cX2_readNumber 13 = .ok (.istore 5, 2) := by decide +kernel
theorem dX2_readNumber_15 : decode cX2_readNumber 15 = .ok (.aload_n 1, 1) := by decide +kernel
theorem dX2_readNumber_16 : decode cX2_readNumber 16 = .ok (.aload_n 0, 1) := by decide +kernel
theorem dX2_readNumber_17 : decode cX2_readNumber 17 = .ok (.getfield 9, 3) := by decide +kernel
theorem dX2_readNumber_20 : decode cX2_readNumber 20 = .ok (.invokevirtual 55, 3) := by decide +kernel
theorem dX2_readNumber_23 : decode cX2_readNumber 23 = .ok (.istore 6, 2) := by decide +kernel
theorem dX2_readNumber_25 : decode cX2_readNumber 25 = .ok (.iload 6, 2) := by decide +kernel
theorem dX2_readNumber_27 : decode cX2_readNumber 27 = .ok (.bipush 48, 2) := by decide +kernel
theorem dX2_readNumber_29 : decode cX2_readNumber 29 = .ok (.if_icmp .lt 48, 3) := by decide +kernel
theorem dX2_readNumber_32 : decode cX2_readNumber 32 = .ok (.iload 6, 2) := by decide +kernel
theorem dX2_readNumber_34 : decode cX2_readNumber 34 = .ok (.bipush 57, 2) := by decide +kernel
theorem dX2_readNumber_36 : decode cX2_readNumber 36 = .ok (.if_icmp .gt 41, 3) := by decide +kernel
theorem dX2_readNumber_39 : decode cX2_readNumber 39 = .ok (.iload 5, 2) := by decide +kernel
theorem dX2_readNumber_41 : decode cX2_readNumber 41 = .ok (.iconst 3, 1) := by decide +kernel
theorem dX2_readNumber_42 : decode cX2_readNumber 42 = .ok (.if_icmp .ge 35, 3) := by decide +kernel
theorem dX2_readNumber_45 : decode cX2_readNumber 45 = .ok (.bipush 10, 2) := by decide +kernel
theorem dX2_readNumber_47 : decode cX2_readNumber 47 = .ok (.iload 4, 2) := by decide +kernel
theorem dX2_readNumber_49 : decode cX2_readNumber 49 = .ok (.imul, 1) := by decide +kernel
theorem dX2_readNumber_50 : decode cX2_readNumber 50 = .ok (.iload 6, 2) := by decide +kernel
theorem dX2_readNumber_52 : decode cX2_readNumber 52 = .ok (.iadd, 1) := by decide +kernel
theorem dX2_readNumber_53 : decode cX2_readNumber 53 = .ok (.bipush 48, 2) := by decide +kernel
theorem dX2_readNumber_55 : decode cX2_readNumber 55 = .ok (.isub, 1) := by decide +kernel
theorem dX2_readNumber_56 : decode cX2_readNumber 56 = .ok (.istore 4, 2) := by decide +kernel
theorem dX2_readNumber_58 : decode cX2_readNumber 58 = .ok (.iinc 5 1, 3) := by decide +kernel
theorem dX2_readNumber_61 : decode cX2_readNumber 61 = .ok (.aload_n 1, 1) := by decide +kernel
theorem dX2_readNumber_62 : decode cX2_readNumber 62 = .ok (.aload_n 0, 1) := by decide +kernel
theorem dX2_readNumber_63 : decode cX2_readNumber 63 = .ok (.getfield 9, 3) := by decide +kernel
theorem dX2_readNumber_66 : decode cX2_readNumber 66 = .ok (.iload 5, 2) := by decide +kernel
theorem dX2_readNumber_68 : decode cX2_readNumber 68 = .ok (.iadd, 1) := by decide +kernel
theorem dX2_readNumber_69 : decode cX2_readNumber 69 = .ok (.invokevirtual 55, 3) := by decide +kernel
theorem dX2_readNumber_72 : decode cX2_readNumber 72 = .ok (.istore 6, 2) := by decide +kernel
theorem dX2_readNumber_74 : decode cX2_readNumber 74 = .ok (.goto (-49), 3) := by decide +kernel
theorem dX2_readNumber_77 : decode cX2_readNumber 77 = .ok (.iload 5, 2) := by decide +kernel
theorem dX2_readNumber_79 : decode cX2_readNumber 79 = .ok (.ifCond .eq 9, 3) := by decide +kernel
theorem dX2_readNumber_82 : decode cX2_readNumber 82 = .ok (.iload 5, 2) := by decide +kernel
theorem dX2_readNumber_84 : decode cX2_readNumber 84 = .ok (.iconst 2, 1) := by decide +kernel
theorem dX2_readNumber_85 : decode cX2_readNumber 85 = .ok (.if_icmp .le 11, 3) := by decide +kernel
theorem dX2_readNumber_88 : decode cX2_readNumber 88 = .ok (.aload_n 0, 1) := by decide +kernel
theorem dX2_readNumber_89 : decode cX2_readNumber 89 = .ok (.iconst 1, 1) := by decide +kernel
theorem dX2_readNumber_90 : decode cX2_readNumber 90 = .ok (.invokevirtual 62, 3) := by decide +kernel
theorem dX2_readNumber_93 : decode cX2_readNumber 93 = .ok (.goto 32, 3) := by decide +kernel
theorem dX2_readNumber_96 : decode cX2_readNumber 96 = .ok (.iload 4, 2) := by decide +kernel
theorem dX2_readNumber_98 : decode cX2_readNumber 98 = .ok (.iload_n 2, 1) := by decide +kernel
theorem dX2_readNumber_99 : decode cX2_readNumber 99 = .ok (.iload_n 3, 1) := by decide +kernel
theorem dX2_readNumber_100 : decode cX2_readNumber 100 = .ok (.invokestatic 66, 3) := by decide +kernel
theorem dX2_readNumber_103 : decode cX2_readNumber 103 = .ok (.ifCond .ne 11, 3) := by decide +kernel
theorem dX2_readNumber_106 : decode cX2_readNumber 106 = .ok (.aload_n 0, 1) := by decide +kernel
theorem dX2_readNumber_107 : decode cX2_readNumber 107 = .ok (.iconst 2, 1) := by decide +kernel
theorem dX2_readNumber_108 : decode cX2_readNumber 108 = .ok (.invokevirtual 62, 3) := by decide +kernel
theorem dX2_readNumber_111 : decode cX2_readNumber 111 = .ok (.goto 14, 3) := by decide +kernel
theorem dX2_readNumber_114 : decode cX2_readNumber 114 = .ok (.aload_n 0, 1) := by decide +kernel
theorem dX2_readNumber_115 : decode cX2_readNumber 115 = .ok (.dup, 1) := by decide +kernel
theorem dX2_readNumber_116 : decode cX2_readNumber 116 = .ok (.getfield 9, 3) := by decide +kernel
theorem dX2_readNumber_119 : decode cX2_readNumber 119 = .ok (.iload 5, 2) := by decide +kernel
theorem dX2_readNumber_121 : decode cX2_readNumber 121 = .ok (.iadd, 1) := by decide +kernel
theorem dX2_readNumber_122 : decode cX2_readNumber 122 = .ok (.putfield 9, 3) := by decide +kernel
theorem dX2_readNumber_125 : decode cX2_readNumber 125 = .ok (.iload 4, 2) := by decide +kernel
theorem dX2_readNumber_127 : decode cX2_readNumber 127 = .ok (.ireturn, 1) := by decide +kernel
theorem dX2_fail_0 : decode cX2_fail 0 = .ok (.aload_n 0, 1) := by decide +kernel
theorem dX2_fail_1 : decode cX2_fail 1 = .ok (.iload_n 1, 1) := by decide +kernel
theorem dX2_fail_2 : decode cX2_fail 2 = .ok (.putfield 15, 3) := by decide +kernel
theorem dX2_fail_5 : decode cX2_fail 5 = .ok (.return_, 1) := by decide +kernel
theorem dX2_kindOf_0 : decode cX2_kindOf 0 = .ok (.iload_n 0, 1) := by decide +kernel
theorem dX2_kindOf_1 : decode cX2_kindOf 1 = .ok (.lookupswitch 61 #[(99, 55), (100, 53), (102, 51), (114, 59), (116, 57)], 51) := by decide +kernel
theorem dX2_kindOf_52 : decode cX2_kindOf 52 = .ok (.iconst 1, 1) := by decide +kernel
theorem dX2_kindOf_53 : decode cX2_kindOf 53 = .ok (.ireturn, 1) := by decide +kernel
theorem dX2_kindOf_54 : decode cX2_kindOf 54 = .ok (.iconst 2, 1) := by decide +kernel
theorem dX2_kindOf_55 : decode cX2_kindOf 55 = .ok (.ireturn, 1) := by decide +kernel
theorem dX2_kindOf_56 : decode cX2_kindOf 56 = .ok (.iconst 3, 1) := by decide +kernel
theorem dX2_kindOf_57 : decode cX2_kindOf 57 = .ok (.ireturn, 1) := by decide +kernel
theorem dX2_kindOf_58 : decode cX2_kindOf 58 = .ok (.iconst 4, 1) := by decide +kernel
theorem dX2_kindOf_59 : decode cX2_kindOf 59 = .ok (.ireturn, 1) := by decide +kernel
theorem dX2_kindOf_60 : decode cX2_kindOf 60 = .ok (.iconst 5, 1) := by decide +kernel
theorem dX2_kindOf_61 : decode cX2_kindOf 61 = .ok (.ireturn, 1) := by decide +kernel
theorem dX2_kindOf_62 : decode cX2_kindOf 62 = .ok (.ldc 61, 2) := by decide +kernel
theorem dX2_kindOf_64 : decode cX2_kindOf 64 = .ok (.ireturn, 1) := by decide +kernel
set_option maxRecDepth 20000 in
theorem ggX3_init_J7_fill_53178 : GoodIn wsX3_init wsJ7_fill_53178 := goodIn_r _ [12] (by decide +kernel) (by decide +kernel)
set_option maxRecDepth 20000 in
theorem gX3_init_J7_fill_53178 : GoodIn wsX3_init (va_wsS RX3 23 yJ7_fill_53178 wsJ7_fill_53178) := goodIn_app (goodIn_of _ (by decide +kernel)) ggX3_init_J7_fill_53178
theorem dX3_init_0 : decode cX3_init 0 = .ok (.aload_n 0, 1) := by decide +kernel
theorem dX3_init_1 : decode cX3_init 1 = .ok (.invokespecial 3, 3) := by decide +kernel
theorem dX3_init_4 : decode cX3_init 4 = .ok (.aload_n 0, 1) := by decide +kernel
theorem dX3_init_5 : decode cX3_init 5 = .ok (.bipush 8, 2) := by decide +kernel
theorem dX3_init_7 : decode cX3_init 7 = .ok (.newarray .int, 2) := by decide +kernel
theorem dX3_init_9 : decode cX3_init 9 = .ok (.putfield 9, 3) := by decide +kernel
theorem dX3_init_12 : decode cX3_init 12 = .ok (.aload_n 0, 1) := by decide +kernel
theorem dX3_init_13 : decode cX3_init 13 = .ok (.bipush 8, 2) := by decide +kernel
theorem dX3_init_15 : decode cX3_init 15 = .ok (.newarray .int, 2) := by decide +kernel
theorem dX3_init_17 : decode cX3_init 17 = .ok (.putfield 15, 3) := by decide +kernel
theorem dX3_init_20 : decode cX3_init 20 = .ok (.aload_n 0, 1) := by decide +kernel
theorem dX3_init_21 : decode cX3_init 21 = .ok (.bipush 8, 2) := by decide +kernel
theorem dX3_init_23 : decode cX3_init 23 = .ok (.bipush 40, 2) := by decide +kernel
theorem dX3_init_25 : decode cX3_init 25 = .ok (.multianewarray 18 2, 4) := by decide +kernel
theorem dX3_init_29 : decode cX3_init 29 = .ok (.putfield 20, 3) := by decide +kernel
theorem dX3_init_32 : decode cX3_init 32 = .ok (.aload_n 0, 1) := by decide +kernel
theorem dX3_init_33 : decode cX3_init 33 = .ok (.getfield 9, 3) := by decide +kernel
theorem dX3_init_36 : decode cX3_init 36 = .ok (.iconst (-1), 1) := by decide +kernel
theorem dX3_init_37 : decode cX3_init 37 = .ok (.invokestatic 23, 3) := by decide +kernel
theorem dX3_init_40 : decode cX3_init 40 = .ok (.return_, 1) := by decide +kernel
theorem dX3_isMissing_0 : decode cX3_isMissing 0 = .ok (.aload_n 0, 1) := by decide +kernel
theorem dX3_isMissing_1 : decode cX3_isMissing 1 = .ok (.getfield 9, 3) := by decide +kernel
theorem dX3_isMissing_4 : decode cX3_isMissing 4 = .ok (.iload_n 1, 1) := by decide +kernel
theorem dX3_isMissing_5 : decode cX3_isMissing 5 = .ok (.iaload, 1) := by decide +kernel
theorem dX3_isMissing_6 : decode cX3_isMissing 6 = .ok (.iconst (-1), 1) := by decide +kernel
theorem dX3_isMissing_7 : decode cX3_isMissing 7 = .ok (.if_icmp .ne 7, 3) := by decide +kernel
theorem dX3_isMissing_10 : decode cX3_isMissing 10 = .ok (.iconst 1, 1) := by decide +kernel
theorem dX3_isMissing_11 : decode cX3_isMissing 11 = .ok (.goto 4, 3) := by decide +kernel
theorem dX3_isMissing_14 : decode cX3_isMissing 14 = .ok (.iconst 0, 1) := by decide +kernel
theorem dX3_isMissing_15 : decode cX3_isMissing 15 = .ok (.ireturn, 1) := by decide +kernel
set_option maxRecDepth 20000 in
theorem ggX3_make_J7_fill_53178 : GoodIn wsX3_make wsJ7_fill_53178 := goodIn_r _ [7] (by decide +kernel) (by decide +kernel)
set_option maxRecDepth 20000 in
theorem gX3_make_J7_fill_53178 : GoodIn wsX3_make (va_wsS RX3 23 yJ7_fill_53178 wsJ7_fill_53178) := goodIn_app (goodIn_of _ (by decide +kernel)) ggX3_make_J7_fill_53178
theorem dX3_make_0 : decode cX3_make 0 = .ok (.aload_n 0, 1) := by decide +kernel
theorem dX3_make_1 : decode cX3_make 1 = .ok (.getfield 9, 3) := by decide +kernel
theorem dX3_make_4 : decode cX3_make 4 = .ok (.iload_n 1, 1) := by decide +kernel
theorem dX3_make_5 : decode cX3_make 5 = .ok (.iload_n 2, 1) := by decide +kernel
theorem dX3_make_6 : decode cX3_make 6 = .ok (.iastore, 1) := by decide +kernel
theorem dX3_make_7 : decode cX3_make 7 = .ok (.aload_n 0, 1) := by decide +kernel
theorem dX3_make_8 : decode cX3_make 8 = .ok (.getfield 15, 3) := by decide +kernel
theorem dX3_make_11 : decode cX3_make 11 = .ok (.iload_n 1, 1) := by decide +kernel
theorem dX3_make_12 : decode cX3_make 12 = .ok (.iload_n 3, 1) := by decide +kernel
theorem dX3_make_13 : decode cX3_make 13 = .ok (.iastore, 1) := by decide +kernel
theorem dX3_make_14 : decode cX3_make 14 = .ok (.aload_n 0, 1) := by decide +kernel
theorem dX3_make_15 : decode cX3_make 15 = .ok (.getfield 20, 3) := by decide +kernel
theorem dX3_make_18 : decode cX3_make 18 = .ok (.iload_n 1, 1) := by decide +kernel
theorem dX3_make_19 : decode cX3_make 19 = .ok (.aaload, 1) := by decide +kernel
theorem dX3_make_20 : decode cX3_make 20 = .ok (.iconst 0, 1) := by decide +kernel
theorem dX3_make_21 : decode cX3_make 21 = .ok (.invokestatic 23, 3) := by decide +kernel
theorem dX3_make_24 : decode cX3_make 24 = .ok (.return_, 1) := by decide +kernel
theorem dX3_reaches_0 : decode cX3_reaches 0 = .ok (.iload_n 2, 1) := by decide +kernel
theorem dX3_reaches_1 : decode cX3_reaches 1 = .ok (.ifCond .lt 33, 3) := by decide +kernel
theorem dX3_reaches_4 : decode cX3_reaches 4 = .ok (.iload_n 3, 1) := by decide +kernel
theorem dX3_reaches_5 : decode cX3_reaches 5 = .ok (.ifCond .lt 29, 3) := by decide +kernel
theorem dX3_reaches_8 : decode cX3_reaches 8 = .ok (.iload_n 3, 1) := by decide +kernel
theorem dX3_reaches_9 : decode cX3_reaches 9 = .ok (.aload_n 0, 1) := by decide +kernel
theorem dX3_reaches_10 : decode cX3_reaches 10 = .ok (.getfield 15, 3) := by decide +kernel
theorem dX3_reaches_13 : decode cX3_reaches 13 = .ok (.iload_n 1, 1) := by decide +kernel
theorem dX3_reaches_14 : decode cX3_reaches 14 = .ok (.iaload, 1) := by decide +kernel
theorem dX3_reaches_15 : decode cX3_reaches 15 = .ok (.if_icmp .gt 19, 3) := by decide +kernel
theorem dX3_reaches_18 : decode cX3_reaches 18 = .ok (.iload_n 2, 1) := by decide +kernel
theorem dX3_reaches_19 : decode cX3_reaches 19 = .ok (.aload_n 0, 1) := by decide +kernel
theorem dX3_reaches_20 : decode cX3_reaches 20 = .ok (.getfield 15, 3) := by decide +kernel
theorem dX3_reaches_23 : decode cX3_reaches 23 = .ok (.iload_n 1, 1) := by decide +kernel
theorem dX3_reaches_24 : decode cX3_reaches 24 = .ok (.iaload, 1) := by decide +kernel
theorem dX3_reaches_25 : decode cX3_reaches 25 = .ok (.iload_n 3, 1) := by decide +kernel
theorem dX3_reaches_26 : decode cX3_reaches 26 = .ok (.isub, 1) := by decide +kernel
theorem dX3_reaches_27 : decode cX3_reaches 27 = .ok (.if_icmp .gt 7, 3) := by decide +kernel
theorem dX3_reaches_30 : decode cX3_reaches 30 = .ok (.iconst 1, 1) := by decide +kernel
theorem dX3_reaches_31 : decode cX3_reaches 31 = .ok (.goto 4, 3) := by decide +kernel
theorem dX3_reaches_34 : decode cX3_reaches 34 = .ok (.iconst 0, 1) := by decide +kernel
theorem dX3_reaches_35 : decode cX3_reaches 35 = .ok (.ireturn, 1) := by decide +kernel
theorem dX3_put_0 : decode cX3_put 0 = .ok (.aload_n 0, 1) := by decide +kernel
theorem dX3_put_1 : decode cX3_put 1 = .ok (.getfield 9, 3) := by decide +kernel
theorem dX3_put_4 : decode cX3_put 4 = .ok (.iload_n 1, 1) := by decide +kernel
theorem dX3_put_5 : decode cX3_put 5 = .ok (.iaload, 1) := by decide +kernel
theorem dX3_put_6 : decode cX3_put 6 = .ok (.istore 4, 2) := by decide +kernel
theorem dX3_put_8 : decode cX3_put 8 = .ok (.aload_n 0, 1) := by decide +kernel
theorem dX3_put_9 : decode cX3_put 9 = .ok (.getfield 20, 3) := by decide +kernel
theorem dX3_put_12 : decode cX3_put 12 = .ok (.iload_n 1, 1) := by decide +kernel
theorem dX3_put_13 : decode cX3_put 13 = .ok (.aaload, 1) := by decide +kernel
theorem dX3_put_14 : decode cX3_put 14 = .ok (.iload_n 2, 1) := by decide +kernel
theorem dX3_put_15 : decode cX3_put 15 = .ok (.iload 4, 2) := by decide +kernel
theorem dX3_put_17 : decode cX3_put 17 = .ok (.ifCond .ne 8, 3) := by decide +kernel
theorem dX3_put_20 : decode cX3_put 20 = .ok (.iload_n 3, 1) := by decide +kernel
theorem dX3_put_21 : decode cX3_put 21 = .ok (.i2b, 1) := by decide +kernel
theorem dX3_put_22 : decode cX3_put 22 = .ok (.goto 15, 3) := by decide +kernel
theorem dX3_put_25 : decode cX3_put 25 = .ok (.iload 4, 2) := by decide +kernel
theorem dX3_put_27 : decode cX3_put 27 = .ok (.iconst 1, 1) := by decide +kernel
theorem dX3_put_28 : decode cX3_put 28 = .ok (.if_icmp .ne 8, 3) := by decide +kernel
theorem dX3_put_31 : decode cX3_put 31 = .ok (.iload_n 3, 1) := by decide +kernel
theorem dX3_put_32 : decode cX3_put 32 = .ok (.i2s, 1) := by decide +kernel
theorem dX3_put_33 : decode cX3_put 33 = .ok (.goto 4, 3) := by decide +kernel
theorem dX3_put_36 : decode cX3_put 36 = .ok (.iload_n 3, 1) := by decide +kernel
theorem dX3_put_37 : decode cX3_put 37 = .ok (.iastore, 1) := by decide +kernel
theorem dX3_put_38 : decode cX3_put 38 = .ok (.aload_n 0, 1) := by decide +kernel
theorem dX3_put_39 : decode cX3_put 39 = .ok (.getfield 20, 3) := by decide +kernel
theorem dX3_put_42 : decode cX3_put 42 = .ok (.iload_n 1, 1) := by decide +kernel
theorem dX3_put_43 : decode cX3_put 43 = .ok (.aaload, 1) := by decide +kernel
theorem dX3_put_44 : decode cX3_put 44 = .ok (.iload_n 2, 1) := by decide +kernel
theorem dX3_put_45 : decode cX3_put 45 = .ok (.iaload, 1) := by decide +kernel
theorem dX3_put_46 : decode cX3_put 46 = .ok (.ireturn, 1) := by decide +kernel
set_option maxRecDepth 20000 in
theorem ggX3_present_X3_isMissing : GoodIn wsX3_present wsX3_isMissing := goodIn_r _ [5, 6, 7, 8, 9] (by decide +kernel) (by decide +kernel)
set_option maxRecDepth 20000 in
theorem gX3_present_X3_isMissing : GoodIn wsX3_present (wsV RX3 29 RX3 yX3_isMissing wsX3_isMissing) := goodIn_app (goodIn_of _ (by decide +kernel)) ggX3_present_X3_isMissing
theorem dX3_present_0 : decode cX3_present 0 = .ok (.iconst 0, 1) := by decide +kernel
theorem dX3_present_1 : decode cX3_present 1 = .ok (.istore_n 1, 1) := by decide +kernel
theorem dX3_present_2 : decode cX3_present 2 = .ok (.iconst 0, 1) := by decide +kernel
theorem dX3_present_3 : decode cX3_present 3 = .ok (.istore_n 2, 1) := by decide +kernel
theorem dX3_present_4 : decode cX3_present 4 = .ok (.iload_n 2, 1) := by decide +kernel
theorem dX3_present_5 : decode cX3_present 5 = .ok (.bipush 8, 2) := by decide +kernel
theorem dX3_present_7 : decode cX3_present 7 = .ok (.if_icmp .ge 25, 3) := by decide +kernel
theorem dX3_present_10 : decode cX3_present 10 = .ok (.iload_n 1, 1) := by decide +kernel
theorem dX3_present_11 : decode cX3_present 11 = .ok (.aload_n 0, 1) := by decide +kernel
theorem dX3_present_12 : decode cX3_present 12 = .ok (.iload_n 2, 1) := by decide +kernel
theorem dX3_present_13 : decode cX3_present 13 = .ok (.invokevirtual 29, 3) := by decide +kernel
theorem dX3_present_16 : decode cX3_present 16 = .ok (.ifCond .eq 7, 3) := by decide +kernel
theorem dX3_present_19 : decode cX3_present 19 = .ok (.iconst 0, 1) := by decide +kernel
theorem dX3_present_20 : decode cX3_present 20 = .ok (.goto 4, 3) := by decide +kernel
theorem dX3_present_23 : decode cX3_present 23 = .ok (.iconst 1, 1) := by decide +kernel
theorem dX3_present_24 : decode cX3_present 24 = .ok (.iadd, 1) := by decide +kernel
theorem dX3_present_25 : decode cX3_present 25 = .ok (.istore_n 1, 1) := by decide +kernel
theorem dX3_present_26 : decode cX3_present 26 = .ok (.iinc 2 1, 3) := by decide +kernel
theorem dX3_present_29 : decode cX3_present 29 = .ok (.goto (-25), 3) := by decide +kernel
theorem dX3_present_32 : decode cX3_present 32 = .ok (.iload_n 1, 1) := by decide +kernel
theorem dX3_present_33 : decode cX3_present 33 = .ok (.ireturn, 1) := by decide +kernel
set_option maxRecDepth 20000 in
theorem ggX5_init_X2_init : GoodIn wsX5_init wsX2_init := goodIn_r _ [11, 12, 2, 3] (by decide +kernel) (by decide +kernel)
set_option maxRecDepth 20000 in
theorem gX5_init_X2_init_n17 : GoodIn wsX5_init (wsX2_init) := ggX5_init_X2_init
theorem dX5_init_0 : decode cX5_init 0 = .ok (.aload_n 0, 1) := by decide +kernel
theorem dX5_init_1 : decode cX5_init 1 = .ok (.invokespecial 3, 3) := by decide +kernel
theorem dX5_init_4 : decode cX5_init 4 = .ok (.aload_n 0, 1) := by decide +kernel
theorem dX5_init_5 : decode cX5_init 5 = .ok (.sipush 130, 3) := by decide +kernel
theorem dX5_init_8 : decode cX5_init 8 = .ok (.newarray .int, 2) := by decide +kernel
theorem dX5_init_10 : decode cX5_init 10 = .ok (.putfield 9, 3) := by decide +kernel
theorem dX5_init_13 : decode cX5_init 13 = .ok (.aload_n 0, 1) := by decide +kernel
theorem dX5_init_14 : decode cX5_init 14 = .ok (.new 15, 3) := by decide +kernel
theorem dX5_init_17 : decode cX5_init 17 = .ok (.dup, 1) := by decide +kernel
theorem dX5_init_18 : decode cX5_init 18 = .ok (.invokespecial 17, 3) := by decide +kernel
theorem dX5_init_21 : decode cX5_init 21 = .ok (.putfield 18, 3) := by decide +kernel
theorem dX5_init_24 : decode cX5_init 24 = .ok (.return_, 1) := by decide +kernel
theorem dX5_add_0 : decode cX5_add 0 = .ok (.aload_n 0, 1) := by decide +kernel
theorem dX5_add_1 : decode cX5_add 1 = .ok (.getfield 22, 3) := by decide +kernel
theorem dX5_add_4 : decode cX5_add 4 = .ok (.sipush 130, 3) := by decide +kernel
theorem dX5_add_7 : decode cX5_add 7 = .ok (.if_icmp .lt 5, 3) := by decide +kernel
theorem dX5_add_10 : decode cX5_add 10 = .ok (.iconst 0, 1) := by decide +kernel
theorem dX5_add_11 : decode cX5_add 11 = .ok (.ireturn, 1) := by decide +kernel
theorem dX5_add_12 : decode cX5_add 12 = .ok (.aload_n 0, 1) := by decide +kernel
theorem dX5_add_13 : decode cX5_add 13 = .ok (.getfield 9, 3) := by decide +kernel
theorem dX5_add_16 : decode cX5_add 16 = .ok (.aload_n 0, 1) := by decide +kernel
theorem dX5_add_17 : decode cX5_add 17 = .ok (.getfield 22, 3) := by decide +kernel
theorem dX5_add_20 : decode cX5_add 20 = .ok (.iload_n 1, 1) := by decide +kernel
theorem dX5_add_21 : decode cX5_add 21 = .ok (.iastore, 1) := by decide +kernel
theorem dX5_add_22 : decode cX5_add 22 = .ok (.aload_n 0, 1) := by decide +kernel
theorem dX5_add_23 : decode cX5_add 23 = .ok (.dup, 1) := by decide +kernel
theorem dX5_add_24 : decode cX5_add 24 = .ok (.getfield 22, 3) := by decide +kernel
theorem dX5_add_27 : decode cX5_add 27 = .ok (.iconst 1, 1) := by decide +kernel
theorem dX5_add_28 : decode cX5_add 28 = .ok (.iadd, 1) := by decide +kernel
theorem dX5_add_29 : decode cX5_add 29 = .ok (.putfield 22, 3) := by decide +kernel
theorem dX5_add_32 : decode cX5_add 32 = .ok (.iconst 1, 1) := by decide +kernel
theorem dX5_add_33 : decode cX5_add 33 = .ok (.ireturn, 1) := by decide +kernel
theorem dX5_at_0 : decode cX5_at 0 = .ok (.iload_n 1, 1) := by decide +kernel
theorem dX5_at_1 : decode cX5_at 1 = .ok (.ifCond .lt 20, 3) := by decide +kernel
theorem dX5_at_4 : decode cX5_at 4 = .ok (.iload_n 1, 1) := by decide +kernel
theorem dX5_at_5 : decode cX5_at 5 = .ok (.aload_n 0, 1) := by decide +kernel
theorem dX5_at_6 : decode cX5_at 6 = .ok (.getfield 22, 3) := by decide +kernel
theorem dX5_at_9 : decode cX5_at 9 = .ok (.if_icmp .ge 12, 3) := by decide +kernel
theorem dX5_at_12 : decode cX5_at 12 = .ok (.aload_n 0, 1) := by decide +kernel
theorem dX5_at_13 : decode cX5_at 13 = .ok (.getfield 9, 3) := by decide +kernel
theorem dX5_at_16 : decode cX5_at 16 = .ok (.iload_n 1, 1) := by decide +kernel
theorem dX5_at_17 : decode cX5_at 17 = .ok (.iaload, 1) := by decide +kernel
theorem dX5_at_18 : decode cX5_at 18 = .ok (.goto 5, 3) := by decide +kernel
theorem dX5_at_21 : decode cX5_at 21 = .ok (.ldc 26, 2) := by decide +kernel
theorem dX5_at_23 : decode cX5_at 23 = .ok (.ireturn, 1) := by decide +kernel
theorem dX6_init_0 : decode cX6_init 0 = .ok (.aload_n 0, 1) := by decide +kernel
theorem dX6_init_1 : decode cX6_init 1 = .ok (.invokespecial 3, 3) := by decide +kernel
theorem dX6_init_4 : decode cX6_init 4 = .ok (.aload_n 0, 1) := by decide +kernel
theorem dX6_init_5 : decode cX6_init 5 = .ok (.bipush 16, 2) := by decide +kernel
theorem dX6_init_7 : decode cX6_init 7 = .ok (.newarray .int, 2) := by decide +kernel
theorem dX6_init_9 : decode cX6_init 9 = .ok (.putfield 9, 3) := by decide +kernel
theorem dX6_init_12 : decode cX6_init 12 = .ok (.return_, 1) := by decide +kernel
theorem dX6_add_0 : decode cX6_add 0 = .ok (.aload_n 0, 1) := by decide +kernel
theorem dX6_add_1 : decode cX6_add 1 = .ok (.getfield 15, 3) := by decide +kernel
theorem dX6_add_4 : decode cX6_add 4 = .ok (.bipush 16, 2) := by decide +kernel
theorem dX6_add_6 : decode cX6_add 6 = .ok (.if_icmp .ge 23, 3) := by decide +kernel
theorem dX6_add_9 : decode cX6_add 9 = .ok (.aload_n 0, 1) := by decide +kernel
theorem dX6_add_10 : decode cX6_add 10 = .ok (.getfield 9, 3) := by decide +kernel
theorem dX6_add_13 : decode cX6_add 13 = .ok (.aload_n 0, 1) := by decide +kernel
theorem dX6_add_14 : decode cX6_add 14 = .ok (.getfield 15, 3) := by decide +kernel
theorem dX6_add_17 : decode cX6_add 17 = .ok (.iload_n 1, 1) := by decide +kernel
theorem dX6_add_18 : decode cX6_add 18 = .ok (.iastore, 1) := by decide +kernel
theorem dX6_add_19 : decode cX6_add 19 = .ok (.aload_n 0, 1) := by decide +kernel
theorem dX6_add_20 : decode cX6_add 20 = .ok (.dup, 1) := by decide +kernel
theorem dX6_add_21 : decode cX6_add 21 = .ok (.getfield 15, 3) := by decide +kernel
theorem dX6_add_24 : decode cX6_add 24 = .ok (.iconst 1, 1) := by decide +kernel
theorem dX6_add_25 : decode cX6_add 25 = .ok (.iadd, 1) := by decide +kernel
theorem dX6_add_26 : decode cX6_add 26 = .ok (.putfield 15, 3) := by decide +kernel
theorem dX6_add_29 : decode cX6_add 29 = .ok (.return_, 1) := by decide +kernel
theorem dX4_init_0 : decode cX4_init 0 = .ok (.aload_n 0, 1) := by decide +kernel
theorem dX4_init_1 : decode cX4_init 1 = .ok (.invokespecial 3, 3) := by decide +kernel
theorem dX4_init_4 : decode cX4_init 4 = .ok (.aload_n 0, 1) := by decide +kernel
theorem dX4_init_5 : decode cX4_init 5 = .ok (.bipush 10, 2) := by decide +kernel
theorem dX4_init_7 : decode cX4_init 7 = .ok (.newarray .int, 2) := by decide +kernel
theorem dX4_init_9 : decode cX4_init 9 = .ok (.putfield 9, 3) := by decide +kernel
theorem dX4_init_12 : decode cX4_init 12 = .ok (.aload_n 0, 1) := by decide +kernel
theorem dX4_init_13 : decode cX4_init 13 = .ok (.bipush 10, 2) := by decide +kernel
theorem dX4_init_15 : decode cX4_init 15 = .ok (.newarray .int, 2) := by decide +kernel
theorem dX4_init_17 : decode cX4_init 17 = .ok (.putfield 15, 3) := by decide +kernel
theorem dX4_init_20 : decode cX4_init 20 = .ok (.aload_n 0, 1) := by decide +kernel
theorem dX4_init_21 : decode cX4_init 21 = .ok (.bipush 10, 2) := by decide +kernel
theorem dX4_init_23 : decode cX4_init 23 = .ok (.newarray .int, 2) := by decide +kernel
theorem dX4_init_25 : decode cX4_init 25 = .ok (.putfield 18, 3) := by decide +kernel
theorem dX4_init_28 : decode cX4_init 28 = .ok (.aload_n 0, 1) := by decide +kernel
theorem dX4_init_29 : decode cX4_init 29 = .ok (.bipush 10, 2) := by decide +kernel
theorem dX4_init_31 : decode cX4_init 31 = .ok (.newarray .int, 2) := by decide +kernel
theorem dX4_init_33 : decode cX4_init 33 = .ok (.putfield 21, 3) := by decide +kernel
theorem dX4_init_36 : decode cX4_init 36 = .ok (.aload_n 0, 1) := by decide +kernel
theorem dX4_init_37 : decode cX4_init 37 = .ok (.bipush 10, 2) := by decide +kernel
theorem dX4_init_39 : decode cX4_init 39 = .ok (.newarray .int, 2) := by decide +kernel
theorem dX4_init_41 : decode cX4_init 41 = .ok (.putfield 24, 3) := by decide +kernel
theorem dX4_init_44 : decode cX4_init 44 = .ok (.return_, 1) := by decide +kernel
theorem dX4_take_0 : decode cX4_take 0 = .ok (.aload_n 1, 1) := by decide +kernel
theorem dX4_take_1 : decode cX4_take 1 = .ok (.getfield 9, 3) := by decide +kernel
theorem dX4_take_4 : decode cX4_take 4 = .ok (.iconst 0, 1) := by decide +kernel
theorem dX4_take_5 : decode cX4_take 5 = .ok (.aload_n 0, 1) := by decide +kernel
theorem dX4_take_6 : decode cX4_take 6 = .ok (.getfield 9, 3) := by decide +kernel
theorem dX4_take_9 : decode cX4_take 9 = .ok (.iconst 0, 1) := by decide +kernel
theorem dX4_take_10 : decode cX4_take 10 = .ok (.bipush 10, 2) := by decide +kernel
theorem dX4_take_12 : decode cX4_take 12 = .ok (.invokestatic 27, 3) := by decide +kernel
theorem dX4_take_15 : decode cX4_take 15 = .ok (.aload_n 1, 1) := by decide +kernel
theorem dX4_take_16 : decode cX4_take 16 = .ok (.getfield 15, 3) := by decide +kernel
theorem dX4_take_19 : decode cX4_take 19 = .ok (.iconst 0, 1) := by decide +kernel
theorem dX4_take_20 : decode cX4_take 20 = .ok (.aload_n 0, 1) := by decide +kernel
theorem dX4_take_21 : decode cX4_take 21 = .ok (.getfield 15, 3) := by decide +kernel
theorem dX4_take_24 : decode cX4_take 24 = .ok (.iconst 0, 1) := by decide +kernel
theorem dX4_take_25 : decode cX4_take 25 = .ok (.bipush 10, 2) := by decide +kernel
theorem dX4_take_27 : decode cX4_take 27 = .ok (.invokestatic 27, 3) := by decide +kernel
theorem dX4_take_30 : decode cX4_take 30 = .ok (.aload_n 1, 1) := by decide +kernel
theorem dX4_take_31 : decode cX4_take 31 = .ok (.getfield 18, 3) := by decide +kernel
theorem dX4_take_34 : decode cX4_take 34 = .ok (.iconst 0, 1) := by decide +kernel
theorem dX4_take_35 : decode cX4_take 35 = .ok (.aload_n 0, 1) := by decide +kernel
theorem dX4_take_36 : decode cX4_take 36 = .ok (.getfield 18, 3) := by decide +kernel
theorem dX4_take_39 : decode cX4_take 39 = .ok (.iconst 0, 1) := by decide +kernel
theorem dX4_take_40 : decode cX4_take 40 = .ok (.bipush 10, 2) := by decide +kernel
theorem dX4_take_42 : decode cX4_take 42 = .ok (.invokestatic 27, 3) := by decide +kernel
theorem dX4_take_45 : decode cX4_take 45 = .ok (.aload_n 1, 1) := by decide +kernel
theorem dX4_take_46 : decode cX4_take 46 = .ok (.getfield 21, 3) := by decide +kernel
theorem dX4_take_49 : decode cX4_take 49 = .ok (.iconst 0, 1) := by decide +kernel
theorem dX4_take_50 : decode cX4_take 50 = .ok (.aload_n 0, 1) := by decide +kernel
theorem dX4_take_51 : decode cX4_take 51 = .ok (.getfield 21, 3) := by decide +kernel
theorem dX4_take_54 : decode cX4_take 54 = .ok (.iconst 0, 1) := by decide +kernel
theorem dX4_take_55 : decode cX4_take 55 = .ok (.bipush 10, 2) := by decide +kernel
theorem dX4_take_57 : decode cX4_take 57 = .ok (.invokestatic 27, 3) := by decide +kernel
theorem dX4_take_60 : decode cX4_take 60 = .ok (.aload_n 1, 1) := by decide +kernel
theorem dX4_take_61 : decode cX4_take 61 = .ok (.getfield 24, 3) := by decide +kernel
theorem dX4_take_64 : decode cX4_take 64 = .ok (.iconst 0, 1) := by decide +kernel
theorem dX4_take_65 : decode cX4_take 65 = .ok (.aload_n 0, 1) := by decide +kernel
theorem dX4_take_66 : decode cX4_take 66 = .ok (.getfield 24, 3) := by decide +kernel
theorem dX4_take_69 : decode cX4_take 69 = .ok (.iconst 0, 1) := by decide +kernel
theorem dX4_take_70 : decode cX4_take 70 = .ok (.bipush 10, 2) := by decide +kernel
theorem dX4_take_72 : decode cX4_take 72 = .ok (.invokestatic 27, 3) := by decide +kernel
theorem dX4_take_75 : decode cX4_take 75 = .ok (.aload_n 0, 1) := by decide +kernel
theorem dX4_take_76 : decode cX4_take 76 = .ok (.aload_n 1, 1) := by decide +kernel
theorem dX4_take_77 : decode cX4_take 77 = .ok (.getfield 33, 3) := by decide +kernel
theorem dX4_take_80 : decode cX4_take 80 = .ok (.putfield 33, 3) := by decide +kernel
theorem dX4_take_83 : decode cX4_take 83 = .ok (.aload_n 0, 1) := by decide +kernel
theorem dX4_take_84 : decode cX4_take 84 = .ok (.aload_n 1, 1) := by decide +kernel
theorem dX4_take_85 : decode cX4_take 85 = .ok (.getfield 37, 3) := by decide +kernel
theorem dX4_take_88 : decode cX4_take 88 = .ok (.putfield 37, 3) := by decide +kernel
theorem dX4_take_91 : decode cX4_take 91 = .ok (.aload_n 0, 1) := by decide +kernel
theorem dX4_take_92 : decode cX4_take 92 = .ok (.aload_n 1, 1) := by decide +kernel
theorem dX4_take_93 : decode cX4_take 93 = .ok (.getfield 40, 3) := by decide +kernel
theorem dX4_take_96 : decode cX4_take 96 = .ok (.putfield 40, 3) := by decide +kernel
theorem dX4_take_99 : decode cX4_take 99 = .ok (.aload_n 0, 1) := by decide +kernel
theorem dX4_take_100 : decode cX4_take 100 = .ok (.aload_n 1, 1) := by decide +kernel
theorem dX4_take_101 : decode cX4_take 101 = .ok (.getfield 43, 3) := by decide +kernel
theorem dX4_take_104 : decode cX4_take 104 = .ok (.putfield 43, 3) := by decide +kernel
theorem dX4_take_107 : decode cX4_take 107 = .ok (.aload_n 0, 1) := by decide +kernel
theorem dX4_take_108 : decode cX4_take 108 = .ok (.aload_n 1, 1) := by decide +kernel
theorem dX4_take_109 : decode cX4_take 109 = .ok (.getfield 46, 3) := by decide +kernel
theorem dX4_take_112 : decode cX4_take 112 = .ok (.putfield 46, 3) := by decide +kernel
theorem dX4_take_115 : decode cX4_take 115 = .ok (.return_, 1) := by decide +kernel
theorem dX4_begin_0 : decode cX4_begin 0 = .ok (.aload_n 0, 1) := by decide +kernel
theorem dX4_begin_1 : decode cX4_begin 1 = .ok (.iconst 0, 1) := by decide +kernel
theorem dX4_begin_2 : decode cX4_begin 2 = .ok (.putfield 33, 3) := by decide +kernel
theorem dX4_begin_5 : decode cX4_begin 5 = .ok (.aload_n 0, 1) := by decide +kernel
theorem dX4_begin_6 : decode cX4_begin 6 = .ok (.iload_n 1, 1) := by decide +kernel
theorem dX4_begin_7 : decode cX4_begin 7 = .ok (.putfield 37, 3) := by decide +kernel
theorem dX4_begin_10 : decode cX4_begin 10 = .ok (.aload_n 0, 1) := by decide +kernel
theorem dX4_begin_11 : decode cX4_begin 11 = .ok (.iload_n 2, 1) := by decide +kernel
theorem dX4_begin_12 : decode cX4_begin 12 = .ok (.putfield 40, 3) := by decide +kernel
theorem dX4_begin_15 : decode cX4_begin 15 = .ok (.aload_n 0, 1) := by decide +kernel
theorem dX4_begin_16 : decode cX4_begin 16 = .ok (.iconst 0, 1) := by decide +kernel
theorem dX4_begin_17 : decode cX4_begin 17 = .ok (.putfield 43, 3) := by decide +kernel
theorem dX4_begin_20 : decode cX4_begin 20 = .ok (.aload_n 0, 1) := by decide +kernel
theorem dX4_begin_21 : decode cX4_begin 21 = .ok (.iconst 0, 1) := by decide +kernel
theorem dX4_begin_22 : decode cX4_begin 22 = .ok (.putfield 46, 3) := by decide +kernel
theorem dX4_begin_25 : decode cX4_begin 25 = .ok (.return_, 1) := by decide +kernel
theorem dX4_build_0 : decode cX4_build 0 = .ok (.aload_n 0, 1) := by decide +kernel
theorem dX4_build_1 : decode cX4_build 1 = .ok (.getfield 33, 3) := by decide +kernel
theorem dX4_build_4 : decode cX4_build 4 = .ok (.bipush 10, 2) := by decide +kernel
theorem dX4_build_6 : decode cX4_build 6 = .ok (.if_icmp .lt 4, 3) := by decide +kernel
theorem dX4_build_9 : decode cX4_build 9 = .ok (.return_, 1) := by decide +kernel
theorem dX4_build_10 : decode cX4_build 10 = .ok (.aload_n 0, 1) := by decide +kernel
theorem dX4_build_11 : decode cX4_build 11 = .ok (.getfield 9, 3) := by decide +kernel
theorem dX4_build_14 : decode cX4_build 14 = .ok (.aload_n 0, 1) := by decide +kernel
theorem dX4_build_15 : decode cX4_build 15 = .ok (.getfield 33, 3) := by decide +kernel
theorem dX4_build_18 : decode cX4_build 18 = .ok (.iload_n 1, 1) := by decide +kernel
theorem dX4_build_19 : decode cX4_build 19 = .ok (.iastore, 1) := by decide +kernel
theorem dX4_build_20 : decode cX4_build 20 = .ok (.aload_n 0, 1) := by decide +kernel
theorem dX4_build_21 : decode cX4_build 21 = .ok (.getfield 15, 3) := by decide +kernel
theorem dX4_build_24 : decode cX4_build 24 = .ok (.aload_n 0, 1) := by decide +kernel
theorem dX4_build_25 : decode cX4_build 25 = .ok (.getfield 33, 3) := by decide +kernel
theorem dX4_build_28 : decode cX4_build 28 = .ok (.iload_n 2, 1) := by decide +kernel
theorem dX4_build_29 : decode cX4_build 29 = .ok (.iastore, 1) := by decide +kernel
theorem dX4_build_30 : decode cX4_build 30 = .ok (.aload_n 0, 1) := by decide +kernel
theorem dX4_build_31 : decode cX4_build 31 = .ok (.getfield 18, 3) := by decide +kernel
theorem dX4_build_34 : decode cX4_build 34 = .ok (.aload_n 0, 1) := by decide +kernel
theorem dX4_build_35 : decode cX4_build 35 = .ok (.getfield 33, 3) := by decide +kernel
theorem dX4_build_38 : decode cX4_build 38 = .ok (.iload_n 3, 1) := by decide +kernel
theorem dX4_build_39 : decode cX4_build 39 = .ok (.iastore, 1) := by decide +kernel
theorem dX4_build_40 : decode cX4_build 40 = .ok (.aload_n 0, 1) := by decide +kernel
theorem dX4_build_41 : decode cX4_build 41 = .ok (.getfield 21, 3) := by decide +kernel
theorem dX4_build_44 : decode cX4_build 44 = .ok (.aload_n 0, 1) := by decide +kernel
theorem dX4_build_45 : decode cX4_build 45 = .ok (.getfield 33, 3) := by decide +kernel
theorem dX4_build_48 : decode cX4_build 48 = .ok (.iload 4, 2) := by decide +kernel
theorem dX4_build_50 : decode cX4_build 50 = .ok (.iastore, 1) := by decide +kernel
theorem dX4_build_51 : decode cX4_build 51 = .ok (.aload_n 0, 1) := by decide +kernel
theorem dX4_build_52 : decode cX4_build 52 = .ok (.getfield 24, 3) := by decide +kernel
theorem dX4_build_55 : decode cX4_build 55 = .ok (.aload_n 0, 1) := by decide +kernel
theorem dX4_build_56 : decode cX4_build 56 = .ok (.getfield 33, 3) := by decide +kernel
theorem dX4_build_59 : decode cX4_build 59 = .ok (.iconst 0, 1) := by decide +kernel
theorem dX4_build_60 : decode cX4_build 60 = .ok (.iastore, 1) := by decide +kernel
theorem dX4_build_61 : decode cX4_build 61 = .ok (.aload_n 0, 1) := by decide +kernel
theorem dX4_build_62 : decode cX4_build 62 = .ok (.dup, 1) := by decide +kernel
theorem dX4_build_63 : decode cX4_build 63 = .ok (.getfield 33, 3) := by decide +kernel
theorem dX4_build_66 : decode cX4_build 66 = .ok (.iconst 1, 1) := by decide +kernel
theorem dX4_build_67 : decode cX4_build 67 = .ok (.iadd, 1) := by decide +kernel
theorem dX4_build_68 : decode cX4_build 68 = .ok (.putfield 33, 3) := by decide +kernel
theorem dX4_build_71 : decode cX4_build 71 = .ok (.return_, 1) := by decide +kernel
theorem dX4_date_0 : decode cX4_date 0 = .ok (.aload_n 0, 1) := by decide +kernel
theorem dX4_date_1 : decode cX4_date 1 = .ok (.getfield 37, 3) := by decide +kernel
theorem dX4_date_4 : decode cX4_date 4 = .ok (.ifCond .le 17, 3) := by decide +kernel
theorem dX4_date_7 : decode cX4_date 7 = .ok (.aload_n 0, 1) := by decide +kernel
theorem dX4_date_8 : decode cX4_date 8 = .ok (.getfield 43, 3) := by decide +kernel
theorem dX4_date_11 : decode cX4_date 11 = .ok (.aload_n 0, 1) := by decide +kernel
theorem dX4_date_12 : decode cX4_date 12 = .ok (.getfield 37, 3) := by decide +kernel
theorem dX4_date_15 : decode cX4_date 15 = .ok (.irem, 1) := by decide +kernel
theorem dX4_date_16 : decode cX4_date 16 = .ok (.iconst 1, 1) := by decide +kernel
theorem dX4_date_17 : decode cX4_date 17 = .ok (.iadd, 1) := by decide +kernel
theorem dX4_date_18 : decode cX4_date 18 = .ok (.goto 4, 3) := by decide +kernel
theorem dX4_date_21 : decode cX4_date 21 = .ok (.iconst 0, 1) := by decide +kernel
theorem dX4_date_22 : decode cX4_date 22 = .ok (.ireturn, 1) := by decide +kernel
theorem dX4_all_0 : decode cX4_all 0 = .ok (.iconst 1, 1) := by decide +kernel
theorem dX4_all_1 : decode cX4_all 1 = .ok (.aload_n 0, 1) := by decide +kernel
theorem dX4_all_2 : decode cX4_all 2 = .ok (.getfield 33, 3) := by decide +kernel
theorem dX4_all_5 : decode cX4_all 5 = .ok (.ishl, 1) := by decide +kernel
theorem dX4_all_6 : decode cX4_all 6 = .ok (.iconst 1, 1) := by decide +kernel
theorem dX4_all_7 : decode cX4_all 7 = .ok (.isub, 1) := by decide +kernel
theorem dX4_all_8 : decode cX4_all 8 = .ok (.ireturn, 1) := by decide +kernel
set_option maxRecDepth 20000 in
theorem ggX4_shutOnes_X4_all : GoodIn wsX4_shutOnes wsX4_all := goodIn_r _ [6, 7, 8, 9, 10, 11, 12, 13, 14, 15, 16, 17] (by decide +kernel) (by decide +kernel)
set_option maxRecDepth 20000 in
theorem gX4_shutOnes_X4_all : GoodIn wsX4_shutOnes (wsV RX4 49 RX4 yX4_all wsX4_all) := goodIn_app (goodIn_of _ (by decide +kernel)) ggX4_shutOnes_X4_all
theorem dX4_shutOnes_0 : decode cX4_shutOnes 0 = .ok (.aload_n 0, 1) := by decide +kernel
theorem dX4_shutOnes_1 : decode cX4_shutOnes 1 = .ok (.invokevirtual 49, 3) := by decide +kernel
theorem dX4_shutOnes_4 : decode cX4_shutOnes 4 = .ok (.aload_n 0, 1) := by decide +kernel
theorem dX4_shutOnes_5 : decode cX4_shutOnes 5 = .ok (.getfield 46, 3) := by decide +kernel
theorem dX4_shutOnes_8 : decode cX4_shutOnes 8 = .ok (.iconst (-1), 1) := by decide +kernel
theorem dX4_shutOnes_9 : decode cX4_shutOnes 9 = .ok (.ixor, 1) := by decide +kernel
theorem dX4_shutOnes_10 : decode cX4_shutOnes 10 = .ok (.iand, 1) := by decide +kernel
theorem dX4_shutOnes_11 : decode cX4_shutOnes 11 = .ok (.ireturn, 1) := by decide +kernel
theorem dX4_isOpen_0 : decode cX4_isOpen 0 = .ok (.aload_n 0, 1) := by decide +kernel
theorem dX4_isOpen_1 : decode cX4_isOpen 1 = .ok (.getfield 46, 3) := by decide +kernel
theorem dX4_isOpen_4 : decode cX4_isOpen 4 = .ok (.iload_n 1, 1) := by decide +kernel
theorem dX4_isOpen_5 : decode cX4_isOpen 5 = .ok (.ishr, 1) := by decide +kernel
theorem dX4_isOpen_6 : decode cX4_isOpen 6 = .ok (.iconst 1, 1) := by decide +kernel
theorem dX4_isOpen_7 : decode cX4_isOpen 7 = .ok (.iand, 1) := by decide +kernel
theorem dX4_isOpen_8 : decode cX4_isOpen 8 = .ok (.ifCond .eq 7, 3) := by decide +kernel
theorem dX4_isOpen_11 : decode cX4_isOpen 11 = .ok (.iconst 1, 1) := by decide +kernel
theorem dX4_isOpen_12 : decode cX4_isOpen 12 = .ok (.goto 4, 3) := by decide +kernel
theorem dX4_isOpen_15 : decode cX4_isOpen 15 = .ok (.iconst 0, 1) := by decide +kernel
theorem dX4_isOpen_16 : decode cX4_isOpen 16 = .ok (.ireturn, 1) := by decide +kernel
theorem dX4_changeDays_0 : decode cX4_changeDays 0 = .ok (.aload_n 0, 1) := by decide +kernel
theorem dX4_changeDays_1 : decode cX4_changeDays 1 = .ok (.getfield 15, 3) := by decide +kernel
theorem dX4_changeDays_4 : decode cX4_changeDays 4 = .ok (.iload_n 1, 1) := by decide +kernel
theorem dX4_changeDays_5 : decode cX4_changeDays 5 = .ok (.iaload, 1) := by decide +kernel
theorem dX4_changeDays_6 : decode cX4_changeDays 6 = .ok (.istore_n 3, 1) := by decide +kernel
theorem dX4_changeDays_7 : decode cX4_changeDays 7 = .ok (.aload_n 0, 1) := by decide +kernel
theorem dX4_changeDays_8 : decode cX4_changeDays 8 = .ok (.getfield 15, 3) := by decide +kernel
theorem dX4_changeDays_11 : decode cX4_changeDays 11 = .ok (.iload_n 1, 1) := by decide +kernel
theorem dX4_changeDays_12 : decode cX4_changeDays 12 = .ok (.aload_n 0, 1) := by decide +kernel
theorem dX4_changeDays_13 : decode cX4_changeDays 13 = .ok (.getfield 15, 3) := by decide +kernel
theorem dX4_changeDays_16 : decode cX4_changeDays 16 = .ok (.iload_n 2, 1) := by decide +kernel
theorem dX4_changeDays_17 : decode cX4_changeDays 17 = .ok (.iaload, 1) := by decide +kernel
theorem dX4_changeDays_18 : decode cX4_changeDays 18 = .ok (.iastore, 1) := by decide +kernel
theorem dX4_changeDays_19 : decode cX4_changeDays 19 = .ok (.aload_n 0, 1) := by decide +kernel
theorem dX4_changeDays_20 : decode cX4_changeDays 20 = .ok (.getfield 15, 3) := by decide +kernel
theorem dX4_changeDays_23 : decode cX4_changeDays 23 = .ok (.iload_n 2, 1) := by decide +kernel
theorem dX4_changeDays_24 : decode cX4_changeDays 24 = .ok (.iload_n 3, 1) := by decide +kernel
theorem dX4_changeDays_25 : decode cX4_changeDays 25 = .ok (.iastore, 1) := by decide +kernel
theorem dX4_changeDays_26 : decode cX4_changeDays 26 = .ok (.return_, 1) := by decide +kernel
theorem dX4_wouldOpen_0 : decode cX4_wouldOpen 0 = .ok (.iload_n 2, 1) := by decide +kernel
theorem dX4_wouldOpen_1 : decode cX4_wouldOpen 1 = .ok (.aload_n 0, 1) := by decide +kernel
theorem dX4_wouldOpen_2 : decode cX4_wouldOpen 2 = .ok (.getfield 15, 3) := by decide +kernel
theorem dX4_wouldOpen_5 : decode cX4_wouldOpen 5 = .ok (.iload_n 1, 1) := by decide +kernel
theorem dX4_wouldOpen_6 : decode cX4_wouldOpen 6 = .ok (.iaload, 1) := by decide +kernel
theorem dX4_wouldOpen_7 : decode cX4_wouldOpen 7 = .ok (.if_icmp .ne 7, 3) := by decide +kernel
theorem dX4_wouldOpen_10 : decode cX4_wouldOpen 10 = .ok (.iconst 1, 1) := by decide +kernel
theorem dX4_wouldOpen_11 : decode cX4_wouldOpen 11 = .ok (.goto 4, 3) := by decide +kernel
theorem dX4_wouldOpen_14 : decode cX4_wouldOpen 14 = .ok (.iconst 0, 1) := by decide +kernel
theorem dX4_wouldOpen_15 : decode cX4_wouldOpen 15 = .ok (.istore_n 3, 1) := by decide +kernel
theorem dX4_wouldOpen_16 : decode cX4_wouldOpen 16 = .ok (.aload_n 0, 1) := by decide +kernel
theorem dX4_wouldOpen_17 : decode cX4_wouldOpen 17 = .ok (.getfield 21, 3) := by decide +kernel
theorem dX4_wouldOpen_20 : decode cX4_wouldOpen 20 = .ok (.iload_n 1, 1) := by decide +kernel
theorem dX4_wouldOpen_21 : decode cX4_wouldOpen 21 = .ok (.iaload, 1) := by decide +kernel
theorem dX4_wouldOpen_22 : decode cX4_wouldOpen 22 = .ok (.iconst 4, 1) := by decide +kernel
theorem dX4_wouldOpen_23 : decode cX4_wouldOpen 23 = .ok (.if_icmp .gt 7, 3) := by decide +kernel
theorem dX4_wouldOpen_26 : decode cX4_wouldOpen 26 = .ok (.iconst 1, 1) := by decide +kernel
theorem dX4_wouldOpen_27 : decode cX4_wouldOpen 27 = .ok (.goto 4, 3) := by decide +kernel
theorem dX4_wouldOpen_30 : decode cX4_wouldOpen 30 = .ok (.iconst 0, 1) := by decide +kernel
theorem dX4_wouldOpen_31 : decode cX4_wouldOpen 31 = .ok (.istore 4, 2) := by decide +kernel
theorem dX4_wouldOpen_33 : decode cX4_wouldOpen 33 = .ok (.aload_n 0, 1) := by decide +kernel
theorem dX4_wouldOpen_34 : decode cX4_wouldOpen 34 = .ok (.getfield 9, 3) := by decide +kernel
theorem dX4_wouldOpen_37 : decode cX4_wouldOpen 37 = .ok (.iload_n 1, 1) := by decide +kernel
theorem dX4_wouldOpen_38 : decode cX4_wouldOpen 38 = .ok (.iaload, 1) := by decide +kernel
theorem dX4_wouldOpen_39 : decode cX4_wouldOpen 39 = .ok (.tableswitch 126 1 5 #[33, 35, 57, 76, 91], 33) := by decide +kernel
theorem dX4_wouldOpen_72 : decode cX4_wouldOpen 72 = .ok (.iload_n 3, 1) := by decide +kernel
theorem dX4_wouldOpen_73 : decode cX4_wouldOpen 73 = .ok (.ireturn, 1) := by decide +kernel
theorem dX4_wouldOpen_74 : decode cX4_wouldOpen 74 = .ok (.iload_n 3, 1) := by decide +kernel
theorem dX4_wouldOpen_75 : decode cX4_wouldOpen 75 = .ok (.ifCond .ne 15, 3) := by decide +kernel
theorem dX4_wouldOpen_78 : decode cX4_wouldOpen 78 = .ok (.iload_n 2, 1) := by decide +kernel
theorem dX4_wouldOpen_79 : decode cX4_wouldOpen 79 = .ok (.aload_n 0, 1) := by decide +kernel
theorem dX4_wouldOpen_80 : decode cX4_wouldOpen 80 = .ok (.getfield 15, 3) := by decide +kernel
theorem dX4_wouldOpen_83 : decode cX4_wouldOpen 83 = .ok (.iload_n 1, 1) := by decide +kernel
theorem dX4_wouldOpen_84 : decode cX4_wouldOpen 84 = .ok (.iaload, 1) := by decide +kernel
theorem dX4_wouldOpen_85 : decode cX4_wouldOpen 85 = .ok (.iconst 1, 1) := by decide +kernel
theorem dX4_wouldOpen_86 : decode cX4_wouldOpen 86 = .ok (.iadd, 1) := by decide +kernel
theorem dX4_wouldOpen_87 : decode cX4_wouldOpen 87 = .ok (.if_icmp .ne 7, 3) := by decide +kernel
theorem dX4_wouldOpen_90 : decode cX4_wouldOpen 90 = .ok (.iconst 1, 1) := by decide +kernel
theorem dX4_wouldOpen_91 : decode cX4_wouldOpen 91 = .ok (.goto 4, 3) := by decide +kernel
theorem dX4_wouldOpen_94 : decode cX4_wouldOpen 94 = .ok (.iconst 0, 1) := by decide +kernel
theorem dX4_wouldOpen_95 : decode cX4_wouldOpen 95 = .ok (.ireturn, 1) := by decide +kernel
theorem dX4_wouldOpen_96 : decode cX4_wouldOpen 96 = .ok (.iload_n 3, 1) := by decide +kernel
theorem dX4_wouldOpen_97 : decode cX4_wouldOpen 97 = .ok (.ifCond .ne 12, 3) := by decide +kernel
theorem dX4_wouldOpen_100 : decode cX4_wouldOpen 100 = .ok (.aload_n 0, 1) := by decide +kernel
theorem dX4_wouldOpen_101 : decode cX4_wouldOpen 101 = .ok (.getfield 21, 3) := by decide +kernel
theorem dX4_wouldOpen_104 : decode cX4_wouldOpen 104 = .ok (.iload_n 1, 1) := by decide +kernel
theorem dX4_wouldOpen_105 : decode cX4_wouldOpen 105 = .ok (.iaload, 1) := by decide +kernel
theorem dX4_wouldOpen_106 : decode cX4_wouldOpen 106 = .ok (.ifCond .ne 7, 3) := by decide +kernel
theorem dX4_wouldOpen_109 : decode cX4_wouldOpen 109 = .ok (.iconst 1, 1) := by decide +kernel
theorem dX4_wouldOpen_110 : decode cX4_wouldOpen 110 = .ok (.goto 4, 3) := by decide +kernel
theorem dX4_wouldOpen_113 : decode cX4_wouldOpen 113 = .ok (.iconst 0, 1) := by decide +kernel
theorem dX4_wouldOpen_114 : decode cX4_wouldOpen 114 = .ok (.ireturn, 1) := by decide +kernel
theorem dX4_wouldOpen_115 : decode cX4_wouldOpen 115 = .ok (.iload_n 3, 1) := by decide +kernel
theorem dX4_wouldOpen_116 : decode cX4_wouldOpen 116 = .ok (.ifCond .eq 12, 3) := by decide +kernel
theorem dX4_wouldOpen_119 : decode cX4_wouldOpen 119 = .ok (.iload 4, 2) := by decide +kernel
theorem dX4_wouldOpen_121 : decode cX4_wouldOpen 121 = .ok (.ifCond .eq 7, 3) := by decide +kernel
theorem dX4_wouldOpen_124 : decode cX4_wouldOpen 124 = .ok (.iconst 1, 1) := by decide +kernel
theorem dX4_wouldOpen_125 : decode cX4_wouldOpen 125 = .ok (.goto 4, 3) := by decide +kernel
theorem dX4_wouldOpen_128 : decode cX4_wouldOpen 128 = .ok (.iconst 0, 1) := by decide +kernel
theorem dX4_wouldOpen_129 : decode cX4_wouldOpen 129 = .ok (.ireturn, 1) := by decide +kernel
theorem dX4_wouldOpen_130 : decode cX4_wouldOpen 130 = .ok (.iload_n 3, 1) := by decide +kernel
theorem dX4_wouldOpen_131 : decode cX4_wouldOpen 131 = .ok (.ifCond .eq 8, 3) := by decide +kernel
theorem dX4_wouldOpen_134 : decode cX4_wouldOpen 134 = .ok (.iload 4, 2) := by decide +kernel
theorem dX4_wouldOpen_136 : decode cX4_wouldOpen 136 = .ok (.ifCond .ne 23, 3) := by decide +kernel
theorem dX4_wouldOpen_139 : decode cX4_wouldOpen 139 = .ok (.aload_n 0, 1) := by decide +kernel
theorem dX4_wouldOpen_140 : decode cX4_wouldOpen 140 = .ok (.getfield 46, 3) := by decide +kernel
theorem dX4_wouldOpen_143 : decode cX4_wouldOpen 143 = .ok (.iconst 1, 1) := by decide +kernel
theorem dX4_wouldOpen_144 : decode cX4_wouldOpen 144 = .ok (.ishl, 1) := by decide +kernel
theorem dX4_wouldOpen_145 : decode cX4_wouldOpen 145 = .ok (.aload_n 0, 1) := by decide +kernel
theorem dX4_wouldOpen_146 : decode cX4_wouldOpen 146 = .ok (.getfield 46, 3) := by decide +kernel
theorem dX4_wouldOpen_149 : decode cX4_wouldOpen 149 = .ok (.iconst 1, 1) := by decide +kernel
theorem dX4_wouldOpen_150 : decode cX4_wouldOpen 150 = .ok (.ishr, 1) := by decide +kernel
theorem dX4_wouldOpen_151 : decode cX4_wouldOpen 151 = .ok (.ior, 1) := by decide +kernel
theorem dX4_wouldOpen_152 : decode cX4_wouldOpen 152 = .ok (.iload_n 1, 1) := by decide +kernel
theorem dX4_wouldOpen_153 : decode cX4_wouldOpen 153 = .ok (.ishr, 1) := by decide +kernel
theorem dX4_wouldOpen_154 : decode cX4_wouldOpen 154 = .ok (.iconst 1, 1) := by decide +kernel
theorem dX4_wouldOpen_155 : decode cX4_wouldOpen 155 = .ok (.iand, 1) := by decide +kernel
theorem dX4_wouldOpen_156 : decode cX4_wouldOpen 156 = .ok (.ifCond .eq 7, 3) := by decide +kernel
theorem dX4_wouldOpen_159 : decode cX4_wouldOpen 159 = .ok (.iconst 1, 1) := by decide +kernel
theorem dX4_wouldOpen_160 : decode cX4_wouldOpen 160 = .ok (.goto 4, 3) := by decide +kernel
theorem dX4_wouldOpen_163 : decode cX4_wouldOpen 163 = .ok (.iconst 0, 1) := by decide +kernel
theorem dX4_wouldOpen_164 : decode cX4_wouldOpen 164 = .ok (.ireturn, 1) := by decide +kernel
theorem dX4_wouldOpen_165 : decode cX4_wouldOpen 165 = .ok (.iconst 0, 1) := by decide +kernel
theorem dX4_wouldOpen_166 : decode cX4_wouldOpen 166 = .ok (.ireturn, 1) := by decide +kernel
set_option maxRecDepth 20000 in
theorem ggX4_turn_X4_date : GoodIn wsX4_turn wsX4_date := goodIn_r _ [6, 7, 8, 48, 49, 50, 51, 52, 53, 54, 55, 56, 57] (by decide +kernel) (by decide +kernel)
set_option maxRecDepth 20000 in
theorem gX4_turn_X4_date : GoodIn wsX4_turn (wsV RX4 53 RX4 yX4_date wsX4_date) := goodIn_app (goodIn_of _ (by decide +kernel)) ggX4_turn_X4_date
set_option maxRecDepth 20000 in
theorem ggX4_turn_X4_all : GoodIn wsX4_turn wsX4_all := goodIn_r _ [12, 13, 48, 49, 50, 51, 52, 53, 54, 55, 56, 57] (by decide +kernel) (by decide +kernel)
set_option maxRecDepth 20000 in
theorem gX4_turn_X4_all : GoodIn wsX4_turn (wsV RX4 49 RX4 yX4_all wsX4_all) := goodIn_app (goodIn_of _ (by decide +kernel)) ggX4_turn_X4_all
set_option maxRecDepth 20000 in
theorem ggX4_turn_X4_opening : GoodIn wsX4_turn wsX4_opening := goodIn_r _ [17, 13, 1, 18, 19, 20, 5, 21, 22, 23, 24, 48, 49, 50, 51, 52, 53, 54, 55, 56, 57] (by decide +kernel) (by decide +kernel)
set_option maxRecDepth 20000 in
theorem gX4_turn_X4_opening : GoodIn wsX4_turn (wsV RX4 56 RX4 yX4_opening wsX4_opening) := goodIn_app (goodIn_of _ (by decide +kernel)) ggX4_turn_X4_opening
set_option maxRecDepth 20000 in
theorem ggX4_turn_X4_look : GoodIn wsX4_turn wsX4_look := goodIn_r _ [28, 1, 29, 13, 30, 31, 32, 33, 5, 34, 35, 36, 37, 38, 39, 48, 49, 50, 51, 52, 53, 54, 55, 56, 57] (by decide +kernel) (by decide +kernel)
set_option maxRecDepth 20000 in
theorem gX4_turn_X4_look : GoodIn wsX4_turn (wsV RX4 60 RX4 yX4_look wsX4_look) := goodIn_app (goodIn_of _ (by decide +kernel)) ggX4_turn_X4_look
set_option maxRecDepth 20000 in
theorem ggX4_turn_X4_close : GoodIn wsX4_turn wsX4_close := goodIn_r _ [43, 7, 1, 8, 44, 45, 46, 5, 47, 13, 23, 48, 49, 50, 51, 52, 53, 54, 55, 56, 57] (by decide +kernel) (by decide +kernel)
set_option maxRecDepth 20000 in
theorem gX4_turn_X4_close : GoodIn wsX4_turn (wsV RX4 63 RX4 yX4_close wsX4_close) := goodIn_app (goodIn_of _ (by decide +kernel)) ggX4_turn_X4_close
theorem dX4_turn_0 : decode cX4_turn 0 = .ok (.aload_n 0, 1) := by decide +kernel
theorem dX4_turn_1 : decode cX4_turn 1 = .ok (.invokevirtual 53, 3) := by decide +kernel
theorem dX4_turn_4 : decode cX4_turn 4 = .ok (.istore_n 1, 1) := by decide +kernel
theorem dX4_turn_5 : decode cX4_turn 5 = .ok (.aload_n 0, 1) := by decide +kernel
theorem dX4_turn_6 : decode cX4_turn 6 = .ok (.iload_n 1, 1) := by decide +kernel
theorem dX4_turn_7 : decode cX4_turn 7 = .ok (.aload_n 0, 1) := by decide +kernel
theorem dX4_turn_8 : decode cX4_turn 8 = .ok (.invokevirtual 49, 3) := by decide +kernel
theorem dX4_turn_11 : decode cX4_turn 11 = .ok (.invokevirtual 56, 3) := by decide +kernel
theorem dX4_turn_14 : decode cX4_turn 14 = .ok (.istore_n 2, 1) := by decide +kernel
theorem dX4_turn_15 : decode cX4_turn 15 = .ok (.aload_n 0, 1) := by decide +kernel
theorem dX4_turn_16 : decode cX4_turn 16 = .ok (.dup, 1) := by decide +kernel
theorem dX4_turn_17 : decode cX4_turn 17 = .ok (.getfield 46, 3) := by decide +kernel
theorem dX4_turn_20 : decode cX4_turn 20 = .ok (.iload_n 2, 1) := by decide +kernel
theorem dX4_turn_21 : decode cX4_turn 21 = .ok (.ior, 1) := by decide +kernel
theorem dX4_turn_22 : decode cX4_turn 22 = .ok (.putfield 46, 3) := by decide +kernel
theorem dX4_turn_25 : decode cX4_turn 25 = .ok (.aload_n 0, 1) := by decide +kernel
theorem dX4_turn_26 : decode cX4_turn 26 = .ok (.invokevirtual 60, 3) := by decide +kernel
theorem dX4_turn_29 : decode cX4_turn 29 = .ok (.aload_n 0, 1) := by decide +kernel
theorem dX4_turn_30 : decode cX4_turn 30 = .ok (.iload_n 1, 1) := by decide +kernel
theorem dX4_turn_31 : decode cX4_turn 31 = .ok (.iload_n 2, 1) := by decide +kernel
theorem dX4_turn_32 : decode cX4_turn 32 = .ok (.invokevirtual 63, 3) := by decide +kernel
theorem dX4_turn_35 : decode cX4_turn 35 = .ok (.return_, 1) := by decide +kernel
set_option maxRecDepth 20000 in
theorem ggX4_turnUnseen_X4_date : GoodIn wsX4_turnUnseen wsX4_date := goodIn_r _ [6, 7, 8, 29, 30, 31, 32, 33, 34, 35, 36, 37, 38] (by decide +kernel) (by decide +kernel)
set_option maxRecDepth 20000 in
theorem gX4_turnUnseen_X4_date : GoodIn wsX4_turnUnseen (wsV RX4 53 RX4 yX4_date wsX4_date) := goodIn_app (goodIn_of _ (by decide +kernel)) ggX4_turnUnseen_X4_date
set_option maxRecDepth 20000 in
theorem ggX4_turnUnseen_X4_opening : GoodIn wsX4_turnUnseen wsX4_opening := goodIn_r _ [12, 13, 1, 14, 15, 16, 5, 17, 18, 19, 20, 29, 30, 31, 32, 33, 34, 35, 36, 37, 38] (by decide +kernel) (by decide +kernel)
set_option maxRecDepth 20000 in
theorem gX4_turnUnseen_X4_opening : GoodIn wsX4_turnUnseen (wsV RX4 56 RX4 yX4_opening wsX4_opening) := goodIn_app (goodIn_of _ (by decide +kernel)) ggX4_turnUnseen_X4_opening
set_option maxRecDepth 20000 in
theorem ggX4_turnUnseen_X4_close : GoodIn wsX4_turnUnseen wsX4_close := goodIn_r _ [24, 7, 1, 8, 25, 26, 27, 5, 28, 13, 19, 29, 30, 31, 32, 33, 34, 35, 36, 37, 38] (by decide +kernel) (by decide +kernel)
set_option maxRecDepth 20000 in
theorem gX4_turnUnseen_X4_close : GoodIn wsX4_turnUnseen (wsV RX4 63 RX4 yX4_close wsX4_close) := goodIn_app (goodIn_of _ (by decide +kernel)) ggX4_turnUnseen_X4_close
theorem dX4_turnUnseen_0 : decode cX4_turnUnseen 0 = .ok (.aload_n 0, 1) := by decide +kernel
theorem dX4_turnUnseen_1 : decode cX4_turnUnseen 1 = .ok (.invokevirtual 53, 3) := by decide +kernel
theorem dX4_turnUnseen_4 : decode cX4_turnUnseen 4 = .ok (.istore_n 2, 1) := by decide +kernel
theorem dX4_turnUnseen_5 : decode cX4_turnUnseen 5 = .ok (.aload_n 0, 1) := by decide +kernel
theorem dX4_turnUnseen_6 : decode cX4_turnUnseen 6 = .ok (.iload_n 2, 1) := by decide +kernel
theorem dX4_turnUnseen_7 : decode cX4_turnUnseen 7 = .ok (.iload_n 1, 1) := by decide +kernel
theorem dX4_turnUnseen_8 : decode cX4_turnUnseen 8 = .ok (.invokevirtual 56, 3) := by decide +kernel
theorem dX4_turnUnseen_11 : decode cX4_turnUnseen 11 = .ok (.istore_n 3, 1) := by decide +kernel
theorem dX4_turnUnseen_12 : decode cX4_turnUnseen 12 = .ok (.aload_n 0, 1) := by decide +kernel
theorem dX4_turnUnseen_13 : decode cX4_turnUnseen 13 = .ok (.dup, 1) := by decide +kernel
theorem dX4_turnUnseen_14 : decode cX4_turnUnseen 14 = .ok (.getfield 46, 3) := by decide +kernel
theorem dX4_turnUnseen_17 : decode cX4_turnUnseen 17 = .ok (.iload_n 3, 1) := by decide +kernel
theorem dX4_turnUnseen_18 : decode cX4_turnUnseen 18 = .ok (.ior, 1) := by decide +kernel
theorem dX4_turnUnseen_19 : decode cX4_turnUnseen 19 = .ok (.putfield 46, 3) := by decide +kernel
theorem dX4_turnUnseen_22 : decode cX4_turnUnseen 22 = .ok (.aload_n 0, 1) := by decide +kernel
theorem dX4_turnUnseen_23 : decode cX4_turnUnseen 23 = .ok (.iload_n 2, 1) := by decide +kernel
theorem dX4_turnUnseen_24 : decode cX4_turnUnseen 24 = .ok (.iload_n 3, 1) := by decide +kernel
theorem dX4_turnUnseen_25 : decode cX4_turnUnseen 25 = .ok (.invokevirtual 63, 3) := by decide +kernel
theorem dX4_turnUnseen_28 : decode cX4_turnUnseen 28 = .ok (.return_, 1) := by decide +kernel
set_option maxRecDepth 20000 in
theorem ggX4_opening_X4_wouldOpen : GoodIn wsX4_opening wsX4_wouldOpen := goodIn_r _ [7, 8, 9, 10, 2, 11, 12, 13, 14, 15, 16, 17, 18, 19, 20] (by decide +kernel) (by decide +kernel)
set_option maxRecDepth 20000 in
theorem gX4_opening_X4_wouldOpen : GoodIn wsX4_opening (wsV RX4 67 RX4 yX4_wouldOpen wsX4_wouldOpen) := goodIn_app (goodIn_of _ (by decide +kernel)) ggX4_opening_X4_wouldOpen
theorem dX4_opening_0 : decode cX4_opening 0 = .ok (.iconst 0, 1) := by decide +kernel
theorem dX4_opening_1 : decode cX4_opening 1 = .ok (.istore_n 3, 1) := by decide +kernel
theorem dX4_opening_2 : decode cX4_opening 2 = .ok (.iconst 0, 1) := by decide +kernel
theorem dX4_opening_3 : decode cX4_opening 3 = .ok (.istore 4, 2) := by decide +kernel
theorem dX4_opening_5 : decode cX4_opening 5 = .ok (.iload 4, 2) := by decide +kernel
theorem dX4_opening_7 : decode cX4_opening 7 = .ok (.aload_n 0, 1) := by decide +kernel
theorem dX4_opening_8 : decode cX4_opening 8 = .ok (.getfield 33, 3) := by decide +kernel
theorem dX4_opening_11 : decode cX4_opening 11 = .ok (.if_icmp .ge 42, 3) := by decide +kernel
theorem dX4_opening_14 : decode cX4_opening 14 = .ok (.iload_n 2, 1) := by decide +kernel
theorem dX4_opening_15 : decode cX4_opening 15 = .ok (.aload_n 0, 1) := by decide +kernel
theorem dX4_opening_16 : decode cX4_opening 16 = .ok (.getfield 46, 3) := by decide +kernel
theorem dX4_opening_19 : decode cX4_opening 19 = .ok (.iconst (-1), 1) := by decide +kernel
theorem dX4_opening_20 : decode cX4_opening 20 = .ok (.ixor, 1) := by decide +kernel
theorem dX4_opening_21 : decode cX4_opening 21 = .ok (.iand, 1) := by decide +kernel
theorem dX4_opening_22 : decode cX4_opening 22 = .ok (.iload 4, 2) := by decide +kernel
theorem dX4_opening_24 : decode cX4_opening 24 = .ok (.ishr, 1) := by decide +kernel
theorem dX4_opening_25 : decode cX4_opening 25 = .ok (.iconst 1, 1) := by decide +kernel
theorem dX4_opening_26 : decode cX4_opening 26 = .ok (.iand, 1) := by decide +kernel
theorem dX4_opening_27 : decode cX4_opening 27 = .ok (.ifCond .eq 20, 3) := by decide +kernel
theorem dX4_opening_30 : decode cX4_opening 30 = .ok (.aload_n 0, 1) := by decide +kernel
theorem dX4_opening_31 : decode cX4_opening 31 = .ok (.iload 4, 2) := by decide +kernel
theorem dX4_opening_33 : decode cX4_opening 33 = .ok (.iload_n 1, 1) := by decide +kernel
theorem dX4_opening_34 : decode cX4_opening 34 = .ok (.invokevirtual 67, 3) := by decide +kernel
theorem dX4_opening_37 : decode cX4_opening 37 = .ok (.ifCond .eq 10, 3) := by decide +kernel
theorem dX4_opening_40 : decode cX4_opening 40 = .ok (.iload_n 3, 1) := by decide +kernel
theorem dX4_opening_41 : decode cX4_opening 41 = .ok (.iconst 1, 1) := by decide +kernel
theorem dX4_opening_42 : decode cX4_opening 42 = .ok (.iload 4, 2) := by decide +kernel
theorem dX4_opening_44 : decode cX4_opening 44 = .ok (.ishl, 1) := by decide +kernel
theorem dX4_opening_45 : decode cX4_opening 45 = .ok (.ior, 1) := by decide +kernel
theorem dX4_opening_46 : decode cX4_opening 46 = .ok (.istore_n 3, 1) := by decide +kernel
theorem dX4_opening_47 : decode cX4_opening 47 = .ok (.iinc 4 1, 3) := by decide +kernel
theorem dX4_opening_50 : decode cX4_opening 50 = .ok (.goto (-45), 3) := by decide +kernel
theorem dX4_opening_53 : decode cX4_opening 53 = .ok (.iload_n 3, 1) := by decide +kernel
theorem dX4_opening_54 : decode cX4_opening 54 = .ok (.ireturn, 1) := by decide +kernel
set_option maxRecDepth 20000 in
theorem ggX4_look_X4_near : GoodIn wsX4_look wsX4_near := goodIn_r _ [9, 2, 15, 16, 17, 18, 19, 20, 21, 22, 23, 24] (by decide +kernel) (by decide +kernel)
set_option maxRecDepth 20000 in
theorem gX4_look_X4_near : GoodIn wsX4_look (wsV RX4 71 RX4 yX4_near wsX4_near) := goodIn_app (goodIn_of _ (by decide +kernel)) ggX4_look_X4_near
set_option maxRecDepth 20000 in
theorem ggX4_look_X4_picturesOf : GoodIn wsX4_look wsX4_picturesOf := goodIn_r _ [13, 3, 14, 15, 16, 17, 18, 19, 20, 21, 22, 23, 24] (by decide +kernel) (by decide +kernel)
set_option maxRecDepth 20000 in
theorem gX4_look_X4_picturesOf : GoodIn wsX4_look (wsV RX4 75 RX4 yX4_picturesOf wsX4_picturesOf) := goodIn_app (goodIn_of _ (by decide +kernel)) ggX4_look_X4_picturesOf
theorem dX4_look_0 : decode cX4_look 0 = .ok (.aload_n 0, 1) := by decide +kernel
theorem dX4_look_1 : decode cX4_look 1 = .ok (.getfield 46, 3) := by decide +kernel
theorem dX4_look_4 : decode cX4_look 4 = .ok (.ifCond .eq 10, 3) := by decide +kernel
theorem dX4_look_7 : decode cX4_look 7 = .ok (.aload_n 0, 1) := by decide +kernel
theorem dX4_look_8 : decode cX4_look 8 = .ok (.getfield 40, 3) := by decide +kernel
theorem dX4_look_11 : decode cX4_look 11 = .ok (.ifCond .ne 4, 3) := by decide +kernel
theorem dX4_look_14 : decode cX4_look 14 = .ok (.return_, 1) := by decide +kernel
theorem dX4_look_15 : decode cX4_look 15 = .ok (.iconst 0, 1) := by decide +kernel
theorem dX4_look_16 : decode cX4_look 16 = .ok (.istore_n 1, 1) := by decide +kernel
theorem dX4_look_17 : decode cX4_look 17 = .ok (.iload_n 1, 1) := by decide +kernel
theorem dX4_look_18 : decode cX4_look 18 = .ok (.aload_n 0, 1) := by decide +kernel
theorem dX4_look_19 : decode cX4_look 19 = .ok (.getfield 33, 3) := by decide +kernel
theorem dX4_look_22 : decode cX4_look 22 = .ok (.if_icmp .ge 34, 3) := by decide +kernel
theorem dX4_look_25 : decode cX4_look 25 = .ok (.aload_n 0, 1) := by decide +kernel
theorem dX4_look_26 : decode cX4_look 26 = .ok (.getfield 24, 3) := by decide +kernel
theorem dX4_look_29 : decode cX4_look 29 = .ok (.iload_n 1, 1) := by decide +kernel
theorem dX4_look_30 : decode cX4_look 30 = .ok (.dup2, 1) := by decide +kernel
theorem dX4_look_31 : decode cX4_look 31 = .ok (.iaload, 1) := by decide +kernel
theorem dX4_look_32 : decode cX4_look 32 = .ok (.aload_n 0, 1) := by decide +kernel
theorem dX4_look_33 : decode cX4_look 33 = .ok (.aload_n 0, 1) := by decide +kernel
theorem dX4_look_34 : decode cX4_look 34 = .ok (.getfield 46, 3) := by decide +kernel
theorem dX4_look_37 : decode cX4_look 37 = .ok (.aload_n 0, 1) := by decide +kernel
theorem dX4_look_38 : decode cX4_look 38 = .ok (.iconst 1, 1) := by decide +kernel
theorem dX4_look_39 : decode cX4_look 39 = .ok (.iload_n 1, 1) := by decide +kernel
theorem dX4_look_40 : decode cX4_look 40 = .ok (.ishl, 1) := by decide +kernel
theorem dX4_look_41 : decode cX4_look 41 = .ok (.invokevirtual 71, 3) := by decide +kernel
theorem dX4_look_44 : decode cX4_look 44 = .ok (.iand, 1) := by decide +kernel
theorem dX4_look_45 : decode cX4_look 45 = .ok (.invokevirtual 75, 3) := by decide +kernel
theorem dX4_look_48 : decode cX4_look 48 = .ok (.ior, 1) := by decide +kernel
theorem dX4_look_49 : decode cX4_look 49 = .ok (.iastore, 1) := by decide +kernel
theorem dX4_look_50 : decode cX4_look 50 = .ok (.iinc 1 1, 3) := by decide +kernel
theorem dX4_look_53 : decode cX4_look 53 = .ok (.goto (-36), 3) := by decide +kernel
theorem dX4_look_56 : decode cX4_look 56 = .ok (.return_, 1) := by decide +kernel
set_option maxRecDepth 20000 in
theorem ggX4_close_X4_wear : GoodIn wsX4_close wsX4_wear := goodIn_r _ [8, 9, 10, 11, 12, 13, 14, 15, 16, 17, 18, 19, 20] (by decide +kernel) (by decide +kernel)
set_option maxRecDepth 20000 in
theorem gX4_close_X4_wear : GoodIn wsX4_close (wsV RX4 78 RX4 yX4_wear wsX4_wear) := goodIn_app (goodIn_of _ (by decide +kernel)) ggX4_close_X4_wear
theorem dX4_close_0 : decode cX4_close 0 = .ok (.iload_n 1, 1) := by decide +kernel
theorem dX4_close_1 : decode cX4_close 1 = .ok (.aload_n 0, 1) := by decide +kernel
theorem dX4_close_2 : decode cX4_close 2 = .ok (.getfield 37, 3) := by decide +kernel
theorem dX4_close_5 : decode cX4_close 5 = .ok (.if_icmp .ne 19, 3) := by decide +kernel
theorem dX4_close_8 : decode cX4_close 8 = .ok (.aload_n 0, 1) := by decide +kernel
theorem dX4_close_9 : decode cX4_close 9 = .ok (.aload_n 0, 1) := by decide +kernel
theorem dX4_close_10 : decode cX4_close 10 = .ok (.getfield 46, 3) := by decide +kernel
theorem dX4_close_13 : decode cX4_close 13 = .ok (.invokevirtual 78, 3) := by decide +kernel
theorem dX4_close_16 : decode cX4_close 16 = .ok (.aload_n 0, 1) := by decide +kernel
theorem dX4_close_17 : decode cX4_close 17 = .ok (.iconst 0, 1) := by decide +kernel
theorem dX4_close_18 : decode cX4_close 18 = .ok (.putfield 46, 3) := by decide +kernel
theorem dX4_close_21 : decode cX4_close 21 = .ok (.goto 8, 3) := by decide +kernel
theorem dX4_close_24 : decode cX4_close 24 = .ok (.aload_n 0, 1) := by decide +kernel
theorem dX4_close_25 : decode cX4_close 25 = .ok (.iload_n 2, 1) := by decide +kernel
theorem dX4_close_26 : decode cX4_close 26 = .ok (.invokevirtual 78, 3) := by decide +kernel
theorem dX4_close_29 : decode cX4_close 29 = .ok (.aload_n 0, 1) := by decide +kernel
theorem dX4_close_30 : decode cX4_close 30 = .ok (.dup, 1) := by decide +kernel
theorem dX4_close_31 : decode cX4_close 31 = .ok (.getfield 43, 3) := by decide +kernel
theorem dX4_close_34 : decode cX4_close 34 = .ok (.iconst 1, 1) := by decide +kernel
theorem dX4_close_35 : decode cX4_close 35 = .ok (.iadd, 1) := by decide +kernel
theorem dX4_close_36 : decode cX4_close 36 = .ok (.putfield 43, 3) := by decide +kernel
theorem dX4_close_39 : decode cX4_close 39 = .ok (.return_, 1) := by decide +kernel
theorem dX4_wear_0 : decode cX4_wear 0 = .ok (.iconst 0, 1) := by decide +kernel
theorem dX4_wear_1 : decode cX4_wear 1 = .ok (.istore_n 2, 1) := by decide +kernel
theorem dX4_wear_2 : decode cX4_wear 2 = .ok (.iload_n 2, 1) := by decide +kernel
theorem dX4_wear_3 : decode cX4_wear 3 = .ok (.aload_n 0, 1) := by decide +kernel
theorem dX4_wear_4 : decode cX4_wear 4 = .ok (.getfield 33, 3) := by decide +kernel
theorem dX4_wear_7 : decode cX4_wear 7 = .ok (.if_icmp .ge 36, 3) := by decide +kernel
theorem dX4_wear_10 : decode cX4_wear 10 = .ok (.iload_n 1, 1) := by decide +kernel
theorem dX4_wear_11 : decode cX4_wear 11 = .ok (.iload_n 2, 1) := by decide +kernel
theorem dX4_wear_12 : decode cX4_wear 12 = .ok (.ishr, 1) := by decide +kernel
theorem dX4_wear_13 : decode cX4_wear 13 = .ok (.iconst 1, 1) := by decide +kernel
theorem dX4_wear_14 : decode cX4_wear 14 = .ok (.iand, 1) := by decide +kernel
theorem dX4_wear_15 : decode cX4_wear 15 = .ok (.ifCond .eq 22, 3) := by decide +kernel
theorem dX4_wear_18 : decode cX4_wear 18 = .ok (.aload_n 0, 1) := by decide +kernel
theorem dX4_wear_19 : decode cX4_wear 19 = .ok (.getfield 21, 3) := by decide +kernel
theorem dX4_wear_22 : decode cX4_wear 22 = .ok (.iload_n 2, 1) := by decide +kernel
theorem dX4_wear_23 : decode cX4_wear 23 = .ok (.iaload, 1) := by decide +kernel
theorem dX4_wear_24 : decode cX4_wear 24 = .ok (.ifCond .le 13, 3) := by decide +kernel
theorem dX4_wear_27 : decode cX4_wear 27 = .ok (.aload_n 0, 1) := by decide +kernel
theorem dX4_wear_28 : decode cX4_wear 28 = .ok (.getfield 21, 3) := by decide +kernel
theorem dX4_wear_31 : decode cX4_wear 31 = .ok (.iload_n 2, 1) := by decide +kernel
theorem dX4_wear_32 : decode cX4_wear 32 = .ok (.dup2, 1) := by decide +kernel
theorem dX4_wear_33 : decode cX4_wear 33 = .ok (.iaload, 1) := by decide +kernel
theorem dX4_wear_34 : decode cX4_wear 34 = .ok (.iconst 1, 1) := by decide +kernel
theorem dX4_wear_35 : decode cX4_wear 35 = .ok (.isub, 1) := by decide +kernel
theorem dX4_wear_36 : decode cX4_wear 36 = .ok (.iastore, 1) := by decide +kernel
theorem dX4_wear_37 : decode cX4_wear 37 = .ok (.iinc 2 1, 3) := by decide +kernel
theorem dX4_wear_40 : decode cX4_wear 40 = .ok (.goto (-38), 3) := by decide +kernel
theorem dX4_wear_43 : decode cX4_wear 43 = .ok (.return_, 1) := by decide +kernel
theorem dX4_near_0 : decode cX4_near 0 = .ok (.iconst 0, 1) := by decide +kernel
theorem dX4_near_1 : decode cX4_near 1 = .ok (.istore_n 2, 1) := by decide +kernel
theorem dX4_near_2 : decode cX4_near 2 = .ok (.iconst 1, 1) := by decide +kernel
theorem dX4_near_3 : decode cX4_near 3 = .ok (.istore_n 3, 1) := by decide +kernel
theorem dX4_near_4 : decode cX4_near 4 = .ok (.iload_n 3, 1) := by decide +kernel
theorem dX4_near_5 : decode cX4_near 5 = .ok (.aload_n 0, 1) := by decide +kernel
theorem dX4_near_6 : decode cX4_near 6 = .ok (.getfield 40, 3) := by decide +kernel
theorem dX4_near_9 : decode cX4_near 9 = .ok (.if_icmp .gt 19, 3) := by decide +kernel
theorem dX4_near_12 : decode cX4_near 12 = .ok (.iload_n 2, 1) := by decide +kernel
theorem dX4_near_13 : decode cX4_near 13 = .ok (.iload_n 1, 1) := by decide +kernel
theorem dX4_near_14 : decode cX4_near 14 = .ok (.iload_n 3, 1) := by decide +kernel
theorem dX4_near_15 : decode cX4_near 15 = .ok (.ishl, 1) := by decide +kernel
theorem dX4_near_16 : decode cX4_near 16 = .ok (.iload_n 1, 1) := by decide +kernel
theorem dX4_near_17 : decode cX4_near 17 = .ok (.iload_n 3, 1) := by decide +kernel
theorem dX4_near_18 : decode cX4_near 18 = .ok (.ishr, 1) := by decide +kernel
theorem dX4_near_19 : decode cX4_near 19 = .ok (.ior, 1) := by decide +kernel
theorem dX4_near_20 : decode cX4_near 20 = .ok (.ior, 1) := by decide +kernel
theorem dX4_near_21 : decode cX4_near 21 = .ok (.istore_n 2, 1) := by decide +kernel
theorem dX4_near_22 : decode cX4_near 22 = .ok (.iinc 3 1, 3) := by decide +kernel
theorem dX4_near_25 : decode cX4_near 25 = .ok (.goto (-21), 3) := by decide +kernel
theorem dX4_near_28 : decode cX4_near 28 = .ok (.iload_n 2, 1) := by decide +kernel
theorem dX4_near_29 : decode cX4_near 29 = .ok (.ireturn, 1) := by decide +kernel
theorem dX4_picturesOf_0 : decode cX4_picturesOf 0 = .ok (.iconst 0, 1) := by decide +kernel
theorem dX4_picturesOf_1 : decode cX4_picturesOf 1 = .ok (.istore_n 2, 1) := by decide +kernel
theorem dX4_picturesOf_2 : decode cX4_picturesOf 2 = .ok (.iconst 0, 1) := by decide +kernel
theorem dX4_picturesOf_3 : decode cX4_picturesOf 3 = .ok (.istore_n 3, 1) := by decide +kernel
theorem dX4_picturesOf_4 : decode cX4_picturesOf 4 = .ok (.iload_n 3, 1) := by decide +kernel
theorem dX4_picturesOf_5 : decode cX4_picturesOf 5 = .ok (.aload_n 0, 1) := by decide +kernel
theorem dX4_picturesOf_6 : decode cX4_picturesOf 6 = .ok (.getfield 33, 3) := by decide +kernel
theorem dX4_picturesOf_9 : decode cX4_picturesOf 9 = .ok (.if_icmp .ge 28, 3) := by decide +kernel
theorem dX4_picturesOf_12 : decode cX4_picturesOf 12 = .ok (.iload_n 1, 1) := by decide +kernel
theorem dX4_picturesOf_13 : decode cX4_picturesOf 13 = .ok (.iload_n 3, 1) := by decide +kernel
theorem dX4_picturesOf_14 : decode cX4_picturesOf 14 = .ok (.ishr, 1) := by decide +kernel
theorem dX4_picturesOf_15 : decode cX4_picturesOf 15 = .ok (.iconst 1, 1) := by decide +kernel
theorem dX4_picturesOf_16 : decode cX4_picturesOf 16 = .ok (.iand, 1) := by decide +kernel
theorem dX4_picturesOf_17 : decode cX4_picturesOf 17 = .ok (.ifCond .eq 14, 3) := by decide +kernel
theorem dX4_picturesOf_20 : decode cX4_picturesOf 20 = .ok (.iload_n 2, 1) := by decide +kernel
theorem dX4_picturesOf_21 : decode cX4_picturesOf 21 = .ok (.iconst 1, 1) := by decide +kernel
theorem dX4_picturesOf_22 : decode cX4_picturesOf 22 = .ok (.aload_n 0, 1) := by decide +kernel
theorem dX4_picturesOf_23 : decode cX4_picturesOf 23 = .ok (.getfield 18, 3) := by decide +kernel
theorem dX4_picturesOf_26 : decode cX4_picturesOf 26 = .ok (.iload_n 3, 1) := by decide +kernel
theorem dX4_picturesOf_27 : decode cX4_picturesOf 27 = .ok (.iaload, 1) := by decide +kernel
theorem dX4_picturesOf_28 : decode cX4_picturesOf 28 = .ok (.ishl, 1) := by decide +kernel
theorem dX4_picturesOf_29 : decode cX4_picturesOf 29 = .ok (.ior, 1) := by decide +kernel
theorem dX4_picturesOf_30 : decode cX4_picturesOf 30 = .ok (.istore_n 2, 1) := by decide +kernel
theorem dX4_picturesOf_31 : decode cX4_picturesOf 31 = .ok (.iinc 3 1, 3) := by decide +kernel
theorem dX4_picturesOf_34 : decode cX4_picturesOf 34 = .ok (.goto (-30), 3) := by decide +kernel
theorem dX4_picturesOf_37 : decode cX4_picturesOf 37 = .ok (.iload_n 2, 1) := by decide +kernel
theorem dX4_picturesOf_38 : decode cX4_picturesOf 38 = .ok (.ireturn, 1) := by decide +kernel
theorem dX4_seenBySome_0 : decode cX4_seenBySome 0 = .ok (.iconst 0, 1) := by decide +kernel
theorem dX4_seenBySome_1 : decode cX4_seenBySome 1 = .ok (.istore_n 1, 1) := by decide +kernel
theorem dX4_seenBySome_2 : decode cX4_seenBySome 2 = .ok (.iconst 0, 1) := by decide +kernel
theorem dX4_seenBySome_3 : decode cX4_seenBySome 3 = .ok (.istore_n 2, 1) := by decide +kernel
theorem dX4_seenBySome_4 : decode cX4_seenBySome 4 = .ok (.iload_n 2, 1) := by decide +kernel
theorem dX4_seenBySome_5 : decode cX4_seenBySome 5 = .ok (.aload_n 0, 1) := by decide +kernel
theorem dX4_seenBySome_6 : decode cX4_seenBySome 6 = .ok (.getfield 33, 3) := by decide +kernel
theorem dX4_seenBySome_9 : decode cX4_seenBySome 9 = .ok (.if_icmp .ge 18, 3) := by decide +kernel
theorem dX4_seenBySome_12 : decode cX4_seenBySome 12 = .ok (.iload_n 1, 1) := by decide +kernel
theorem dX4_seenBySome_13 : decode cX4_seenBySome 13 = .ok (.aload_n 0, 1) := by decide +kernel
theorem dX4_seenBySome_14 : decode cX4_seenBySome 14 = .ok (.getfield 24, 3) := by decide +kernel
theorem dX4_seenBySome_17 : decode cX4_seenBySome 17 = .ok (.iload_n 2, 1) := by decide +kernel
theorem dX4_seenBySome_18 : decode cX4_seenBySome 18 = .ok (.iaload, 1) := by decide +kernel
theorem dX4_seenBySome_19 : decode cX4_seenBySome 19 = .ok (.ior, 1) := by decide +kernel
theorem dX4_seenBySome_20 : decode cX4_seenBySome 20 = .ok (.istore_n 1, 1) := by decide +kernel
theorem dX4_seenBySome_21 : decode cX4_seenBySome 21 = .ok (.iinc 2 1, 3) := by decide +kernel
theorem dX4_seenBySome_24 : decode cX4_seenBySome 24 = .ok (.goto (-20), 3) := by decide +kernel
theorem dX4_seenBySome_27 : decode cX4_seenBySome 27 = .ok (.iload_n 1, 1) := by decide +kernel
theorem dX4_seenBySome_28 : decode cX4_seenBySome 28 = .ok (.ireturn, 1) := by decide +kernel
theorem dX4_firstBare_0 : decode cX4_firstBare 0 = .ok (.iconst 0, 1) := by decide +kernel
theorem dX4_firstBare_1 : decode cX4_firstBare 1 = .ok (.istore_n 1, 1) := by decide +kernel
theorem dX4_firstBare_2 : decode cX4_firstBare 2 = .ok (.iload_n 1, 1) := by decide +kernel
theorem dX4_firstBare_3 : decode cX4_firstBare 3 = .ok (.aload_n 0, 1) := by decide +kernel
theorem dX4_firstBare_4 : decode cX4_firstBare 4 = .ok (.getfield 33, 3) := by decide +kernel
theorem dX4_firstBare_7 : decode cX4_firstBare 7 = .ok (.if_icmp .ge 20, 3) := by decide +kernel
theorem dX4_firstBare_10 : decode cX4_firstBare 10 = .ok (.aload_n 0, 1) := by decide +kernel
theorem dX4_firstBare_11 : decode cX4_firstBare 11 = .ok (.getfield 21, 3) := by decide +kernel
theorem dX4_firstBare_14 : decode cX4_firstBare 14 = .ok (.iload_n 1, 1) := by decide +kernel
theorem dX4_firstBare_15 : decode cX4_firstBare 15 = .ok (.iaload, 1) := by decide +kernel
theorem dX4_firstBare_16 : decode cX4_firstBare 16 = .ok (.ifCond .ne 5, 3) := by decide +kernel
theorem dX4_firstBare_19 : decode cX4_firstBare 19 = .ok (.iload_n 1, 1) := by decide +kernel
theorem dX4_firstBare_20 : decode cX4_firstBare 20 = .ok (.ireturn, 1) := by decide +kernel
theorem dX4_firstBare_21 : decode cX4_firstBare 21 = .ok (.iinc 1 1, 3) := by decide +kernel
theorem dX4_firstBare_24 : decode cX4_firstBare 24 = .ok (.goto (-22), 3) := by decide +kernel
theorem dX4_firstBare_27 : decode cX4_firstBare 27 = .ok (.ldc 82, 2) := by decide +kernel
theorem dX4_firstBare_29 : decode cX4_firstBare 29 = .ok (.ireturn, 1) := by decide +kernel
set_option maxRecDepth 20000 in
theorem ggX4_touching_X4_rulers : GoodIn wsX4_touching wsX4_rulers := goodIn_r _ [6, 1, 7, 12, 13, 14, 15, 16, 17, 18, 19, 20, 21] (by decide +kernel) (by decide +kernel)
set_option maxRecDepth 20000 in
theorem gX4_touching_X4_rulers : GoodIn wsX4_touching (wsV RX4 83 RX4 yX4_rulers wsX4_rulers) := goodIn_app (goodIn_of _ (by decide +kernel)) ggX4_touching_X4_rulers
set_option maxRecDepth 20000 in
theorem ggX4_touching_X4_all : GoodIn wsX4_touching wsX4_all := goodIn_r _ [11, 1, 12, 13, 14, 15, 16, 17, 18, 19, 20, 21] (by decide +kernel) (by decide +kernel)
set_option maxRecDepth 20000 in
theorem gX4_touching_X4_all : GoodIn wsX4_touching (wsV RX4 49 RX4 yX4_all wsX4_all) := goodIn_app (goodIn_of _ (by decide +kernel)) ggX4_touching_X4_all
theorem dX4_touching_0 : decode cX4_touching 0 = .ok (.iconst 1, 1) := by decide +kernel
theorem dX4_touching_1 : decode cX4_touching 1 = .ok (.iload_n 1, 1) := by decide +kernel
theorem dX4_touching_2 : decode cX4_touching 2 = .ok (.ishl, 1) := by decide +kernel
theorem dX4_touching_3 : decode cX4_touching 3 = .ok (.istore_n 2, 1) := by decide +kernel
theorem dX4_touching_4 : decode cX4_touching 4 = .ok (.iconst 0, 1) := by decide +kernel
theorem dX4_touching_5 : decode cX4_touching 5 = .ok (.istore_n 3, 1) := by decide +kernel
theorem dX4_touching_6 : decode cX4_touching 6 = .ok (.iload_n 3, 1) := by decide +kernel
theorem dX4_touching_7 : decode cX4_touching 7 = .ok (.aload_n 0, 1) := by decide +kernel
theorem dX4_touching_8 : decode cX4_touching 8 = .ok (.getfield 33, 3) := by decide +kernel
theorem dX4_touching_11 : decode cX4_touching 11 = .ok (.if_icmp .ge 34, 3) := by decide +kernel
theorem dX4_touching_14 : decode cX4_touching 14 = .ok (.iload_n 2, 1) := by decide +kernel
theorem dX4_touching_15 : decode cX4_touching 15 = .ok (.aload_n 0, 1) := by decide +kernel
theorem dX4_touching_16 : decode cX4_touching 16 = .ok (.invokevirtual 83, 3) := by decide +kernel
theorem dX4_touching_19 : decode cX4_touching 19 = .ok (.iand, 1) := by decide +kernel
theorem dX4_touching_20 : decode cX4_touching 20 = .ok (.istore 4, 2) := by decide +kernel
theorem dX4_touching_22 : decode cX4_touching 22 = .ok (.iload_n 2, 1) := by decide +kernel
theorem dX4_touching_23 : decode cX4_touching 23 = .ok (.iload 4, 2) := by decide +kernel
theorem dX4_touching_25 : decode cX4_touching 25 = .ok (.iconst 1, 1) := by decide +kernel
theorem dX4_touching_26 : decode cX4_touching 26 = .ok (.ishl, 1) := by decide +kernel
theorem dX4_touching_27 : decode cX4_touching 27 = .ok (.iload 4, 2) := by decide +kernel
theorem dX4_touching_29 : decode cX4_touching 29 = .ok (.iconst 1, 1) := by decide +kernel
theorem dX4_touching_30 : decode cX4_touching 30 = .ok (.ishr, 1) := by decide +kernel
theorem dX4_touching_31 : decode cX4_touching 31 = .ok (.ior, 1) := by decide +kernel
theorem dX4_touching_32 : decode cX4_touching 32 = .ok (.aload_n 0, 1) := by decide +kernel
theorem dX4_touching_33 : decode cX4_touching 33 = .ok (.invokevirtual 49, 3) := by decide +kernel
theorem dX4_touching_36 : decode cX4_touching 36 = .ok (.iand, 1) := by decide +kernel
theorem dX4_touching_37 : decode cX4_touching 37 = .ok (.ior, 1) := by decide +kernel
theorem dX4_touching_38 : decode cX4_touching 38 = .ok (.istore_n 2, 1) := by decide +kernel
theorem dX4_touching_39 : decode cX4_touching 39 = .ok (.iinc 3 1, 3) := by decide +kernel
theorem dX4_touching_42 : decode cX4_touching 42 = .ok (.goto (-36), 3) := by decide +kernel
theorem dX4_touching_45 : decode cX4_touching 45 = .ok (.iload_n 2, 1) := by decide +kernel
theorem dX4_touching_46 : decode cX4_touching 46 = .ok (.ireturn, 1) := by decide +kernel
theorem dX4_rulers_0 : decode cX4_rulers 0 = .ok (.iconst 0, 1) := by decide +kernel
theorem dX4_rulers_1 : decode cX4_rulers 1 = .ok (.istore_n 1, 1) := by decide +kernel
theorem dX4_rulers_2 : decode cX4_rulers 2 = .ok (.iconst 0, 1) := by decide +kernel
theorem dX4_rulers_3 : decode cX4_rulers 3 = .ok (.istore_n 2, 1) := by decide +kernel
theorem dX4_rulers_4 : decode cX4_rulers 4 = .ok (.iload_n 2, 1) := by decide +kernel
theorem dX4_rulers_5 : decode cX4_rulers 5 = .ok (.aload_n 0, 1) := by decide +kernel
theorem dX4_rulers_6 : decode cX4_rulers 6 = .ok (.getfield 33, 3) := by decide +kernel
theorem dX4_rulers_9 : decode cX4_rulers 9 = .ok (.if_icmp .ge 29, 3) := by decide +kernel
theorem dX4_rulers_12 : decode cX4_rulers 12 = .ok (.iload_n 1, 1) := by decide +kernel
theorem dX4_rulers_13 : decode cX4_rulers 13 = .ok (.aload_n 0, 1) := by decide +kernel
theorem dX4_rulers_14 : decode cX4_rulers 14 = .ok (.getfield 9, 3) := by decide +kernel
theorem dX4_rulers_17 : decode cX4_rulers 17 = .ok (.iload_n 2, 1) := by decide +kernel
theorem dX4_rulers_18 : decode cX4_rulers 18 = .ok (.iaload, 1) := by decide +kernel
theorem dX4_rulers_19 : decode cX4_rulers 19 = .ok (.iconst 5, 1) := by decide +kernel
theorem dX4_rulers_20 : decode cX4_rulers 20 = .ok (.if_icmp .ne 9, 3) := by decide +kernel
theorem dX4_rulers_23 : decode cX4_rulers 23 = .ok (.iconst 1, 1) := by decide +kernel
theorem dX4_rulers_24 : decode cX4_rulers 24 = .ok (.iload_n 2, 1) := by decide +kernel
theorem dX4_rulers_25 : decode cX4_rulers 25 = .ok (.ishl, 1) := by decide +kernel
theorem dX4_rulers_26 : decode cX4_rulers 26 = .ok (.goto 4, 3) := by decide +kernel
theorem dX4_rulers_29 : decode cX4_rulers 29 = .ok (.iconst 0, 1) := by decide +kernel
theorem dX4_rulers_30 : decode cX4_rulers 30 = .ok (.ior, 1) := by decide +kernel
theorem dX4_rulers_31 : decode cX4_rulers 31 = .ok (.istore_n 1, 1) := by decide +kernel
theorem dX4_rulers_32 : decode cX4_rulers 32 = .ok (.iinc 2 1, 3) := by decide +kernel
theorem dX4_rulers_35 : decode cX4_rulers 35 = .ok (.goto (-31), 3) := by decide +kernel
theorem dX4_rulers_38 : decode cX4_rulers 38 = .ok (.iload_n 1, 1) := by decide +kernel
theorem dX4_rulers_39 : decode cX4_rulers 39 = .ok (.ireturn, 1) := by decide +kernel
theorem dX4_gluable_0 : decode cX4_gluable 0 = .ok (.iconst 0, 1) := by decide +kernel
theorem dX4_gluable_1 : decode cX4_gluable 1 = .ok (.istore_n 1, 1) := by decide +kernel
theorem dX4_gluable_2 : decode cX4_gluable 2 = .ok (.iconst 0, 1) := by decide +kernel
theorem dX4_gluable_3 : decode cX4_gluable 3 = .ok (.istore_n 2, 1) := by decide +kernel
theorem dX4_gluable_4 : decode cX4_gluable 4 = .ok (.iload_n 2, 1) := by decide +kernel
theorem dX4_gluable_5 : decode cX4_gluable 5 = .ok (.aload_n 0, 1) := by decide +kernel
theorem dX4_gluable_6 : decode cX4_gluable 6 = .ok (.getfield 33, 3) := by decide +kernel
theorem dX4_gluable_9 : decode cX4_gluable 9 = .ok (.if_icmp .ge 70, 3) := by decide +kernel
theorem dX4_gluable_12 : decode cX4_gluable 12 = .ok (.aload_n 0, 1) := by decide +kernel
theorem dX4_gluable_13 : decode cX4_gluable 13 = .ok (.getfield 9, 3) := by decide +kernel
theorem dX4_gluable_16 : decode cX4_gluable 16 = .ok (.iload_n 2, 1) := by decide +kernel
theorem dX4_gluable_17 : decode cX4_gluable 17 = .ok (.iaload, 1) := by decide +kernel
theorem dX4_gluable_18 : decode cX4_gluable 18 = .ok (.iconst 3, 1) := by decide +kernel
theorem dX4_gluable_19 : decode cX4_gluable 19 = .ok (.if_icmp .eq 23, 3) := by decide +kernel
theorem dX4_gluable_22 : decode cX4_gluable 22 = .ok (.aload_n 0, 1) := by decide +kernel
theorem dX4_gluable_23 : decode cX4_gluable 23 = .ok (.getfield 9, 3) := by decide +kernel
theorem dX4_gluable_26 : decode cX4_gluable 26 = .ok (.iload_n 2, 1) := by decide +kernel
theorem dX4_gluable_27 : decode cX4_gluable 27 = .ok (.iaload, 1) := by decide +kernel
theorem dX4_gluable_28 : decode cX4_gluable 28 = .ok (.iconst 4, 1) := by decide +kernel
theorem dX4_gluable_29 : decode cX4_gluable 29 = .ok (.if_icmp .eq 13, 3) := by decide +kernel
theorem dX4_gluable_32 : decode cX4_gluable 32 = .ok (.aload_n 0, 1) := by decide +kernel
theorem dX4_gluable_33 : decode cX4_gluable 33 = .ok (.getfield 9, 3) := by decide +kernel
theorem dX4_gluable_36 : decode cX4_gluable 36 = .ok (.iload_n 2, 1) := by decide +kernel
theorem dX4_gluable_37 : decode cX4_gluable 37 = .ok (.iaload, 1) := by decide +kernel
theorem dX4_gluable_38 : decode cX4_gluable 38 = .ok (.iconst 5, 1) := by decide +kernel
theorem dX4_gluable_39 : decode cX4_gluable 39 = .ok (.if_icmp .ne 7, 3) := by decide +kernel
theorem dX4_gluable_42 : decode cX4_gluable 42 = .ok (.iconst 1, 1) := by decide +kernel
theorem dX4_gluable_43 : decode cX4_gluable 43 = .ok (.goto 4, 3) := by decide +kernel
theorem dX4_gluable_46 : decode cX4_gluable 46 = .ok (.iconst 0, 1) := by decide +kernel
theorem dX4_gluable_47 : decode cX4_gluable 47 = .ok (.istore_n 3, 1) := by decide +kernel
theorem dX4_gluable_48 : decode cX4_gluable 48 = .ok (.iload_n 1, 1) := by decide +kernel
theorem dX4_gluable_49 : decode cX4_gluable 49 = .ok (.iload_n 3, 1) := by decide +kernel
theorem dX4_gluable_50 : decode cX4_gluable 50 = .ok (.ifCond .eq 20, 3) := by decide +kernel
theorem dX4_gluable_53 : decode cX4_gluable 53 = .ok (.aload_n 0, 1) := by decide +kernel
theorem dX4_gluable_54 : decode cX4_gluable 54 = .ok (.getfield 21, 3) := by decide +kernel
theorem dX4_gluable_57 : decode cX4_gluable 57 = .ok (.iload_n 2, 1) := by decide +kernel
theorem dX4_gluable_58 : decode cX4_gluable 58 = .ok (.iaload, 1) := by decide +kernel
theorem dX4_gluable_59 : decode cX4_gluable 59 = .ok (.bipush 9, 2) := by decide +kernel
theorem dX4_gluable_61 : decode cX4_gluable 61 = .ok (.if_icmp .ge 9, 3) := by decide +kernel
theorem dX4_gluable_64 : decode cX4_gluable 64 = .ok (.iconst 1, 1) := by decide +kernel
theorem dX4_gluable_65 : decode cX4_gluable 65 = .ok (.iload_n 2, 1) := by decide +kernel
theorem dX4_gluable_66 : decode cX4_gluable 66 = .ok (.ishl, 1) := by decide +kernel
theorem dX4_gluable_67 : decode cX4_gluable 67 = .ok (.goto 4, 3) := by decide +kernel
theorem dX4_gluable_70 : decode cX4_gluable 70 = .ok (.iconst 0, 1) := by decide +kernel
theorem dX4_gluable_71 : decode cX4_gluable 71 = .ok (.ior, 1) := by decide +kernel
theorem dX4_gluable_72 : decode cX4_gluable 72 = .ok (.istore_n 1, 1) := by decide +kernel
theorem dX4_gluable_73 : decode cX4_gluable 73 = .ok (.iinc 2 1, 3) := by decide +kernel
theorem dX4_gluable_76 : decode cX4_gluable 76 = .ok (.goto (-72), 3) := by decide +kernel
theorem dX4_gluable_79 : decode cX4_gluable 79 = .ok (.iload_n 1, 1) := by decide +kernel
theorem dX4_gluable_80 : decode cX4_gluable 80 = .ok (.ireturn, 1) := by decide +kernel
theorem dX4_glueFast_0 : decode cX4_glueFast 0 = .ok (.iconst 0, 1) := by decide +kernel
theorem dX4_glueFast_1 : decode cX4_glueFast 1 = .ok (.istore_n 2, 1) := by decide +kernel
theorem dX4_glueFast_2 : decode cX4_glueFast 2 = .ok (.iload_n 2, 1) := by decide +kernel
theorem dX4_glueFast_3 : decode cX4_glueFast 3 = .ok (.aload_n 0, 1) := by decide +kernel
theorem dX4_glueFast_4 : decode cX4_glueFast 4 = .ok (.getfield 33, 3) := by decide +kernel
theorem dX4_glueFast_7 : decode cX4_glueFast 7 = .ok (.if_icmp .ge 25, 3) := by decide +kernel
theorem dX4_glueFast_10 : decode cX4_glueFast 10 = .ok (.iload_n 1, 1) := by decide +kernel
theorem dX4_glueFast_11 : decode cX4_glueFast 11 = .ok (.iload_n 2, 1) := by decide +kernel
theorem dX4_glueFast_12 : decode cX4_glueFast 12 = .ok (.ishr, 1) := by decide +kernel
theorem dX4_glueFast_13 : decode cX4_glueFast 13 = .ok (.iconst 1, 1) := by decide +kernel
theorem dX4_glueFast_14 : decode cX4_glueFast 14 = .ok (.iand, 1) := by decide +kernel
theorem dX4_glueFast_15 : decode cX4_glueFast 15 = .ok (.ifCond .eq 11, 3) := by decide +kernel
theorem dX4_glueFast_18 : decode cX4_glueFast 18 = .ok (.aload_n 0, 1) := by decide +kernel
theorem dX4_glueFast_19 : decode cX4_glueFast 19 = .ok (.getfield 21, 3) := by decide +kernel
theorem dX4_glueFast_22 : decode cX4_glueFast 22 = .ok (.iload_n 2, 1) := by decide +kernel
theorem dX4_glueFast_23 : decode cX4_glueFast 23 = .ok (.bipush 9, 2) := by decide +kernel
theorem dX4_glueFast_25 : decode cX4_glueFast 25 = .ok (.iastore, 1) := by decide +kernel
theorem dX4_glueFast_26 : decode cX4_glueFast 26 = .ok (.iinc 2 1, 3) := by decide +kernel
theorem dX4_glueFast_29 : decode cX4_glueFast 29 = .ok (.goto (-27), 3) := by decide +kernel
theorem dX4_glueFast_32 : decode cX4_glueFast 32 = .ok (.return_, 1) := by decide +kernel
