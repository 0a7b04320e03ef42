theorem dX8_window_82 : decode cX8_window 82 = .ok (.aload_n 0, 1) := by decide +kernel
theorem dX8_window_83 : decode cX8_window 83 = .ok (.getfield 7, 3) := by decide +kernel
theorem dX8_window_86 : decode cX8_window 86 = .ok (.iconst 4, 1) := by decide +kernel
theorem dX8_window_87 : decode cX8_window 87 = .ok (.iaload, 1) := by decide +kernel
theorem dX8_window_88 : decode cX8_window 88 = .ok (.iload_n 1, 1) := by decide +kernel
theorem dX8_window_89 : decode cX8_window 89 = .ok (.ishr, 1) := by decide +kernel
theorem dX8_window_90 : decode cX8_window 90 = .ok (.iconst 1, 1) := by decide +kernel
theorem dX8_window_91 : decode cX8_window 91 = .ok (.iand, 1) := by decide +kernel
theorem dX8_window_92 : decode cX8_window 92 = .ok (.ireturn, 1) := by decide +kernel
theorem dX8_window_93 : decode cX8_window 93 = .ok (.aload_n 0, 1) := by decide +kernel
theorem dX8_window_94 : decode cX8_window 94 = .ok (.getfield 7, 3) := by decide +kernel
theorem dX8_window_97 : decode cX8_window 97 = .ok (.bipush 45, 2) := by decide +kernel
theorem dX8_window_99 : decode cX8_window 99 = .ok (.iload_n 1, 1) := by decide +kernel
theorem dX8_window_100 : decode cX8_window 100 = .ok (.iadd, 1) := by decide +kernel
theorem dX8_window_101 : decode cX8_window 101 = .ok (.iaload, 1) := by decide +kernel
theorem dX8_window_102 : decode cX8_window 102 = .ok (.ireturn, 1) := by decide +kernel
theorem dX8_window_103 : decode cX8_window 103 = .ok (.aload_n 0, 1) := by decide +kernel
theorem dX8_window_104 : decode cX8_window 104 = .ok (.iconst 0, 1) := by decide +kernel
theorem dX8_window_105 : decode cX8_window 105 = .ok (.iload_n 1, 1) := by decide +kernel
theorem dX8_window_106 : decode cX8_window 106 = .ok (.invokevirtual 127, 3) := by decide +kernel
theorem dX8_window_109 : decode cX8_window 109 = .ok (.ifCond .eq 7, 3) := by decide +kernel
theorem dX8_window_112 : decode cX8_window 112 = .ok (.iconst 1, 1) := by decide +kernel
theorem dX8_window_113 : decode cX8_window 113 = .ok (.goto 4, 3) := by decide +kernel
theorem dX8_window_116 : decode cX8_window 116 = .ok (.iconst 0, 1) := by decide +kernel
theorem dX8_window_117 : decode cX8_window 117 = .ok (.ireturn, 1) := by decide +kernel
theorem dX8_window_118 : decode cX8_window 118 = .ok (.ldc 48, 2) := by decide +kernel
theorem dX8_window_120 : decode cX8_window 120 = .ok (.ireturn, 1) := by decide +kernel
set_option maxRecDepth 20000 in
theorem ggX8_tries_X8_copyOf : GoodIn wsX8_tries wsX8_copyOf := goodIn_r _ [5, 6, 7, 8, 9, 10, 11, 12, 13, 14, 15, 16, 17, 18, 19, 20, 21] (by decide +kernel) (by decide +kernel)
set_option maxRecDepth 20000 in
theorem gX8_tries_X8_copyOf : GoodIn wsX8_tries (wsV RX8 107 RX8 yX8_copyOf wsX8_copyOf) := goodIn_app (goodIn_of _ (by decide +kernel)) ggX8_tries_X8_copyOf
theorem dX8_tries_0 : decode cX8_tries 0 = .ok (.aload_n 0, 1) := by decide +kernel
theorem dX8_tries_1 : decode cX8_tries 1 = .ok (.iconst 0, 1) := by decide +kernel
theorem dX8_tries_2 : decode cX8_tries 2 = .ok (.bipush 55, 2) := by decide +kernel
theorem dX8_tries_4 : decode cX8_tries 4 = .ok (.invokevirtual 107, 3) := by decide +kernel
theorem dX8_tries_7 : decode cX8_tries 7 = .ok (.return_, 1) := by decide +kernel
set_option maxRecDepth 20000 in
theorem ggX8_goesOn_X8_passes : GoodIn wsX8_goesOn wsX8_passes := goodIn_r _ [5, 6, 7, 8, 4, 9, 10, 11, 12, 13, 14, 15, 16, 17, 18, 19, 20, 21, 22, 23, 24, 25, 26, 27, 28, 29, 30, 31, 32, 33, 34, 35, 36, 37, 38, 39, 40, 41, 42, 43, 44, 45, 46, 47] (by decide +kernel) (by decide +kernel)
set_option maxRecDepth 20000 in
theorem gX8_goesOn_X8_passes : GoodIn wsX8_goesOn (wsV RX8 146 RX8 yX8_passes wsX8_passes) := goodIn_app (goodIn_of _ (by decide +kernel)) ggX8_goesOn_X8_passes
theorem dX8_goesOn_0 : decode cX8_goesOn 0 = .ok (.iconst 0, 1) := by decide +kernel
theorem dX8_goesOn_1 : decode cX8_goesOn 1 = .ok (.istore_n 2, 1) := by decide +kernel
theorem dX8_goesOn_2 : decode cX8_goesOn 2 = .ok (.iload_n 2, 1) := by decide +kernel
theorem dX8_goesOn_3 : decode cX8_goesOn 3 = .ok (.iload_n 1, 1) := by decide +kernel
theorem dX8_goesOn_4 : decode cX8_goesOn 4 = .ok (.if_icmp .ge 16, 3) := by decide +kernel
theorem dX8_goesOn_7 : decode cX8_goesOn 7 = .ok (.aload_n 0, 1) := by decide +kernel
theorem dX8_goesOn_8 : decode cX8_goesOn 8 = .ok (.bipush 55, 2) := by decide +kernel
theorem dX8_goesOn_10 : decode cX8_goesOn 10 = .ok (.invokevirtual 146, 3) := by decide +kernel
theorem dX8_goesOn_13 : decode cX8_goesOn 13 = .ok (.pop, 1) := by decide +kernel
theorem dX8_goesOn_14 : decode cX8_goesOn 14 = .ok (.iinc 2 1, 3) := by decide +kernel
theorem dX8_goesOn_17 : decode cX8_goesOn 17 = .ok (.goto (-15), 3) := by decide +kernel
theorem dX8_goesOn_20 : decode cX8_goesOn 20 = .ok (.return_, 1) := by decide +kernel
set_option maxRecDepth 20000 in
theorem ggX8_opens_X8_isStreet : GoodIn wsX8_opens wsX8_isStreet := goodIn_r _ [9, 4, 55, 56, 57, 58, 59, 60, 61, 62, 63, 64, 65, 66, 67, 68, 69] (by decide +kernel) (by decide +kernel)
set_option maxRecDepth 20000 in
theorem gX8_opens_X8_isStreet : GoodIn wsX8_opens (wsV RX8 137 RX8 yX8_isStreet wsX8_isStreet) := goodIn_app (goodIn_of _ (by decide +kernel)) ggX8_opens_X8_isStreet
set_option maxRecDepth 20000 in
theorem ggX8_opens_X8_in : GoodIn wsX8_opens wsX8_in := goodIn_r _ [12] (by decide +kernel) (by decide +kernel)
set_option maxRecDepth 20000 in
theorem gX8_opens_X8_in : GoodIn wsX8_opens (va_wsS RX8 31 yX8_in wsX8_in) := goodIn_app (goodIn_of _ (by decide +kernel)) ggX8_opens_X8_in
set_option maxRecDepth 20000 in
theorem ggX8_opens_X8_tries : GoodIn wsX8_opens wsX8_tries := goodIn_r _ [16, 17, 18, 19, 8, 20, 4, 55, 56, 57, 58, 59, 60, 61, 62, 63, 64, 65, 66, 67, 68, 69] (by decide +kernel) (by decide +kernel)
set_option maxRecDepth 20000 in
theorem gX8_opens_X8_tries : GoodIn wsX8_opens (wsV RX8 162 RX8 yX8_tries wsX8_tries) := goodIn_app (goodIn_of _ (by decide +kernel)) ggX8_opens_X8_tries
set_option maxRecDepth 20000 in
theorem ggX8_opens_X8_goesOn : GoodIn wsX8_opens wsX8_goesOn := goodIn_r _ [24, 25, 26, 27, 8, 28, 4, 29, 30, 31, 32, 33, 34, 35, 36, 37, 38, 39, 40, 41, 42, 43, 44, 45, 46, 47, 48, 49, 50, 51, 52, 53, 54, 55, 56, 57, 58, 59, 60, 61, 62, 63, 64, 65, 66, 67, 68, 69] (by decide +kernel) (by decide +kernel)
set_option maxRecDepth 20000 in
theorem gX8_opens_X8_goesOn : GoodIn wsX8_opens (wsV RX8 165 RX8 yX8_goesOn wsX8_goesOn) := goodIn_app (goodIn_of _ (by decide +kernel)) ggX8_opens_X8_goesOn
theorem dX8_opens_0 : decode cX8_opens 0 = .ok (.aload_n 0, 1) := by decide +kernel
theorem dX8_opens_1 : decode cX8_opens 1 = .ok (.invokevirtual 137, 3) := by decide +kernel
theorem dX8_opens_4 : decode cX8_opens 4 = .ok (.ifCond .ne 6, 3) := by decide +kernel
theorem dX8_opens_7 : decode cX8_opens 7 = .ok (.ldc 140, 2) := by decide +kernel
theorem dX8_opens_9 : decode cX8_opens 9 = .ok (.ireturn, 1) := by decide +kernel
theorem dX8_opens_10 : decode cX8_opens 10 = .ok (.iload_n 1, 1) := by decide +kernel
theorem dX8_opens_11 : decode cX8_opens 11 = .ok (.i2l, 1) := by decide +kernel
theorem dX8_opens_12 : decode cX8_opens 12 = .ok (.lconst 0, 1) := by decide +kernel
theorem dX8_opens_13 : decode cX8_opens 13 = .ok (.ldc2_w 160, 3) := by decide +kernel
theorem dX8_opens_16 : decode cX8_opens 16 = .ok (.invokestatic 31, 3) := by decide +kernel
theorem dX8_opens_19 : decode cX8_opens 19 = .ok (.ifCond .ne 6, 3) := by decide +kernel
theorem dX8_opens_22 : decode cX8_opens 22 = .ok (.ldc 48, 2) := by decide +kernel
theorem dX8_opens_24 : decode cX8_opens 24 = .ok (.ireturn, 1) := by decide +kernel
theorem dX8_opens_25 : decode cX8_opens 25 = .ok (.aload_n 0, 1) := by decide +kernel
theorem dX8_opens_26 : decode cX8_opens 26 = .ok (.invokevirtual 162, 3) := by decide +kernel
theorem dX8_opens_29 : decode cX8_opens 29 = .ok (.aload_n 0, 1) := by decide +kernel
theorem dX8_opens_30 : decode cX8_opens 30 = .ok (.iload_n 1, 1) := by decide +kernel
theorem dX8_opens_31 : decode cX8_opens 31 = .ok (.invokevirtual 165, 3) := by decide +kernel
theorem dX8_opens_34 : decode cX8_opens 34 = .ok (.aload_n 0, 1) := by decide +kernel
theorem dX8_opens_35 : decode cX8_opens 35 = .ok (.getfield 7, 3) := by decide +kernel
theorem dX8_opens_38 : decode cX8_opens 38 = .ok (.bipush 59, 2) := by decide +kernel
theorem dX8_opens_40 : decode cX8_opens 40 = .ok (.iaload, 1) := by decide +kernel
theorem dX8_opens_41 : decode cX8_opens 41 = .ok (.ireturn, 1) := by decide +kernel
set_option maxRecDepth 20000 in
theorem ggX8_ahead_X8_isWindow : GoodIn wsX8_ahead wsX8_isWindow := goodIn_r _ [8, 3, 9, 10, 7, 11, 54, 55, 56, 57, 58, 59, 60, 61, 62, 63, 64, 65, 66, 67, 68] (by decide +kernel) (by decide +kernel)
set_option maxRecDepth 20000 in
theorem gX8_ahead_X8_isWindow : GoodIn wsX8_ahead (wsV RX8 149 RX8 yX8_isWindow wsX8_isWindow) := goodIn_app (goodIn_of _ (by decide +kernel)) ggX8_ahead_X8_isWindow
set_option maxRecDepth 20000 in
theorem ggX8_ahead_X8_in : GoodIn wsX8_ahead wsX8_in := goodIn_r _ [11] (by decide +kernel) (by decide +kernel)
set_option maxRecDepth 20000 in
theorem gX8_ahead_X8_in : GoodIn wsX8_ahead (va_wsS RX8 31 yX8_in wsX8_in) := goodIn_app (goodIn_of _ (by decide +kernel)) ggX8_ahead_X8_in
set_option maxRecDepth 20000 in
theorem ggX8_ahead_X8_tries : GoodIn wsX8_ahead wsX8_tries := goodIn_r _ [15, 16, 17, 18, 7, 19, 3, 54, 55, 56, 57, 58, 59, 60, 61, 62, 63, 64, 65, 66, 67, 68] (by decide +kernel) (by decide +kernel)
set_option maxRecDepth 20000 in
theorem gX8_ahead_X8_tries : GoodIn wsX8_ahead (wsV RX8 162 RX8 yX8_tries wsX8_tries) := goodIn_app (goodIn_of _ (by decide +kernel)) ggX8_ahead_X8_tries
set_option maxRecDepth 20000 in
theorem ggX8_ahead_X8_goesOn : GoodIn wsX8_ahead wsX8_goesOn := goodIn_r _ [23, 24, 25, 26, 7, 27, 3, 28, 29, 30, 31, 32, 33, 34, 35, 36, 37, 38, 39, 40, 41, 42, 43, 44, 45, 46, 47, 48, 49, 50, 51, 52, 53, 54, 55, 56, 57, 58, 59, 60, 61, 62, 63, 64, 65, 66, 67, 68] (by decide +kernel) (by decide +kernel)
set_option maxRecDepth 20000 in
theorem gX8_ahead_X8_goesOn : GoodIn wsX8_ahead (wsV RX8 165 RX8 yX8_goesOn wsX8_goesOn) := goodIn_app (goodIn_of _ (by decide +kernel)) ggX8_ahead_X8_goesOn
theorem dX8_ahead_0 : decode cX8_ahead 0 = .ok (.aload_n 0, 1) := by decide +kernel
theorem dX8_ahead_1 : decode cX8_ahead 1 = .ok (.iload_n 1, 1) := by decide +kernel
theorem dX8_ahead_2 : decode cX8_ahead 2 = .ok (.invokevirtual 149, 3) := by decide +kernel
theorem dX8_ahead_5 : decode cX8_ahead 5 = .ok (.ifCond .eq 25, 3) := by decide +kernel
theorem dX8_ahead_8 : decode cX8_ahead 8 = .ok (.iload_n 2, 1) := by decide +kernel
theorem dX8_ahead_9 : decode cX8_ahead 9 = .ok (.i2l, 1) := by decide +kernel
theorem dX8_ahead_10 : decode cX8_ahead 10 = .ok (.lconst 0, 1) := by decide +kernel
theorem dX8_ahead_11 : decode cX8_ahead 11 = .ok (.ldc2_w 160, 3) := by decide +kernel
theorem dX8_ahead_14 : decode cX8_ahead 14 = .ok (.invokestatic 31, 3) := by decide +kernel
theorem dX8_ahead_17 : decode cX8_ahead 17 = .ok (.ifCond .eq 13, 3) := by decide +kernel
theorem dX8_ahead_20 : decode cX8_ahead 20 = .ok (.iload_n 3, 1) := by decide +kernel
theorem dX8_ahead_21 : decode cX8_ahead 21 = .ok (.i2l, 1) := by decide +kernel
theorem dX8_ahead_22 : decode cX8_ahead 22 = .ok (.lconst 0, 1) := by decide +kernel
theorem dX8_ahead_23 : decode cX8_ahead 23 = .ok (.lconst 1, 1) := by decide +kernel
theorem dX8_ahead_24 : decode cX8_ahead 24 = .ok (.invokestatic 31, 3) := by decide +kernel
theorem dX8_ahead_27 : decode cX8_ahead 27 = .ok (.ifCond .ne 6, 3) := by decide +kernel
theorem dX8_ahead_30 : decode cX8_ahead 30 = .ok (.ldc 48, 2) := by decide +kernel
theorem dX8_ahead_32 : decode cX8_ahead 32 = .ok (.ireturn, 1) := by decide +kernel
theorem dX8_ahead_33 : decode cX8_ahead 33 = .ok (.aload_n 0, 1) := by decide +kernel
theorem dX8_ahead_34 : decode cX8_ahead 34 = .ok (.invokevirtual 162, 3) := by decide +kernel
theorem dX8_ahead_37 : decode cX8_ahead 37 = .ok (.aload_n 0, 1) := by decide +kernel
theorem dX8_ahead_38 : decode cX8_ahead 38 = .ok (.iload_n 2, 1) := by decide +kernel
theorem dX8_ahead_39 : decode cX8_ahead 39 = .ok (.invokevirtual 165, 3) := by decide +kernel
theorem dX8_ahead_42 : decode cX8_ahead 42 = .ok (.iload_n 3, 1) := by decide +kernel
theorem dX8_ahead_43 : decode cX8_ahead 43 = .ok (.ifCond .ne 15, 3) := by decide +kernel
theorem dX8_ahead_46 : decode cX8_ahead 46 = .ok (.aload_n 0, 1) := by decide +kernel
theorem dX8_ahead_47 : decode cX8_ahead 47 = .ok (.getfield 7, 3) := by decide +kernel
theorem dX8_ahead_50 : decode cX8_ahead 50 = .ok (.bipush 90, 2) := by decide +kernel
theorem dX8_ahead_52 : decode cX8_ahead 52 = .ok (.iload_n 1, 1) := by decide +kernel
theorem dX8_ahead_53 : decode cX8_ahead 53 = .ok (.iadd, 1) := by decide +kernel
theorem dX8_ahead_54 : decode cX8_ahead 54 = .ok (.iaload, 1) := by decide +kernel
theorem dX8_ahead_55 : decode cX8_ahead 55 = .ok (.goto 12, 3) := by decide +kernel
theorem dX8_ahead_58 : decode cX8_ahead 58 = .ok (.aload_n 0, 1) := by decide +kernel
theorem dX8_ahead_59 : decode cX8_ahead 59 = .ok (.getfield 7, 3) := by decide +kernel
theorem dX8_ahead_62 : decode cX8_ahead 62 = .ok (.bipush 100, 2) := by decide +kernel
theorem dX8_ahead_64 : decode cX8_ahead 64 = .ok (.iload_n 1, 1) := by decide +kernel
theorem dX8_ahead_65 : decode cX8_ahead 65 = .ok (.iadd, 1) := by decide +kernel
theorem dX8_ahead_66 : decode cX8_ahead 66 = .ok (.iaload, 1) := by decide +kernel
theorem dX8_ahead_67 : decode cX8_ahead 67 = .ok (.ireturn, 1) := by decide +kernel
set_option maxRecDepth 20000 in
theorem ggX8_spots_X8_isWindow : GoodIn wsX8_spots wsX8_isWindow := goodIn_r _ [9, 3, 10, 11, 8, 12, 51, 52, 53, 54, 55, 56, 57, 58, 59, 60, 61, 62, 63, 64, 65] (by decide +kernel) (by decide +kernel)
set_option maxRecDepth 20000 in
theorem gX8_spots_X8_isWindow : GoodIn wsX8_spots (wsV RX8 149 RX8 yX8_isWindow wsX8_isWindow) := goodIn_app (goodIn_of _ (by decide +kernel)) ggX8_spots_X8_isWindow
set_option maxRecDepth 20000 in
theorem ggX8_spots_X8_in : GoodIn wsX8_spots wsX8_in := goodIn_r _ [12] (by decide +kernel) (by decide +kernel)
set_option maxRecDepth 20000 in
theorem gX8_spots_X8_in : GoodIn wsX8_spots (va_wsS RX8 31 yX8_in wsX8_in) := goodIn_app (goodIn_of _ (by decide +kernel)) ggX8_spots_X8_in
set_option maxRecDepth 20000 in
theorem ggX8_spots_X8_tries : GoodIn wsX8_spots wsX8_tries := goodIn_r _ [16, 17, 18, 19, 8, 20, 3, 51, 52, 53, 54, 55, 56, 57, 58, 59, 60, 61, 62, 63, 64, 65] (by decide +kernel) (by decide +kernel)
set_option maxRecDepth 20000 in
theorem gX8_spots_X8_tries : GoodIn wsX8_spots (wsV RX8 162 RX8 yX8_tries wsX8_tries) := goodIn_app (goodIn_of _ (by decide +kernel)) ggX8_spots_X8_tries
set_option maxRecDepth 20000 in
theorem ggX8_spots_X8_has : GoodIn wsX8_spots wsX8_has := goodIn_r _ [23] (by decide +kernel) (by decide +kernel)
set_option maxRecDepth 20000 in
theorem gX8_spots_X8_has : GoodIn wsX8_spots (va_wsS RX8 120 yX8_has wsX8_has) := goodIn_app (goodIn_of _ (by decide +kernel)) ggX8_spots_X8_has
set_option maxRecDepth 20000 in
theorem ggX8_spots_X8_passes : GoodIn wsX8_spots wsX8_passes := goodIn_r _ [27, 3, 21, 22, 8, 23, 28, 29, 30, 31, 32, 33, 34, 35, 36, 37, 38, 39, 40, 41, 42, 43, 44, 45, 46, 47, 48, 49, 50, 51, 52, 53, 54, 55, 56, 57, 58, 59, 60, 61, 62, 63, 64, 65] (by decide +kernel) (by decide +kernel)
set_option maxRecDepth 20000 in
theorem gX8_spots_X8_passes : GoodIn wsX8_spots (wsV RX8 146 RX8 yX8_passes wsX8_passes) := goodIn_app (goodIn_of _ (by decide +kernel)) ggX8_spots_X8_passes
theorem dX8_spots_0 : decode cX8_spots 0 = .ok (.aload_n 0, 1) := by decide +kernel
theorem dX8_spots_1 : decode cX8_spots 1 = .ok (.iload_n 1, 1) := by decide +kernel
theorem dX8_spots_2 : decode cX8_spots 2 = .ok (.invokevirtual 149, 3) := by decide +kernel
theorem dX8_spots_5 : decode cX8_spots 5 = .ok (.ifCond .eq 15, 3) := by decide +kernel
theorem dX8_spots_8 : decode cX8_spots 8 = .ok (.iload_n 2, 1) := by decide +kernel
theorem dX8_spots_9 : decode cX8_spots 9 = .ok (.i2l, 1) := by decide +kernel
theorem dX8_spots_10 : decode cX8_spots 10 = .ok (.lconst 0, 1) := by decide +kernel
theorem dX8_spots_11 : decode cX8_spots 11 = .ok (.ldc2_w 152, 3) := by decide +kernel
theorem dX8_spots_14 : decode cX8_spots 14 = .ok (.invokestatic 31, 3) := by decide +kernel
theorem dX8_spots_17 : decode cX8_spots 17 = .ok (.ifCond .ne 6, 3) := by decide +kernel
theorem dX8_spots_20 : decode cX8_spots 20 = .ok (.ldc 48, 2) := by decide +kernel
theorem dX8_spots_22 : decode cX8_spots 22 = .ok (.ireturn, 1) := by decide +kernel
theorem dX8_spots_23 : decode cX8_spots 23 = .ok (.aload_n 0, 1) := by decide +kernel
theorem dX8_spots_24 : decode cX8_spots 24 = .ok (.invokevirtual 162, 3) := by decide +kernel
theorem dX8_spots_27 : decode cX8_spots 27 = .ok (.iconst 0, 1) := by decide +kernel
theorem dX8_spots_28 : decode cX8_spots 28 = .ok (.istore_n 3, 1) := by decide +kernel
theorem dX8_spots_29 : decode cX8_spots 29 = .ok (.iload_n 3, 1) := by decide +kernel
theorem dX8_spots_30 : decode cX8_spots 30 = .ok (.bipush 60, 2) := by decide +kernel
theorem dX8_spots_32 : decode cX8_spots 32 = .ok (.if_icmp .gt 34, 3) := by decide +kernel
theorem dX8_spots_35 : decode cX8_spots 35 = .ok (.aload_n 0, 1) := by decide +kernel
theorem dX8_spots_36 : decode cX8_spots 36 = .ok (.getfield 7, 3) := by decide +kernel
theorem dX8_spots_39 : decode cX8_spots 39 = .ok (.bipush 100, 2) := by decide +kernel
theorem dX8_spots_41 : decode cX8_spots 41 = .ok (.iload_n 1, 1) := by decide +kernel
theorem dX8_spots_42 : decode cX8_spots 42 = .ok (.iadd, 1) := by decide +kernel
theorem dX8_spots_43 : decode cX8_spots 43 = .ok (.iaload, 1) := by decide +kernel
theorem dX8_spots_44 : decode cX8_spots 44 = .ok (.iload_n 2, 1) := by decide +kernel
theorem dX8_spots_45 : decode cX8_spots 45 = .ok (.invokestatic 120, 3) := by decide +kernel
theorem dX8_spots_48 : decode cX8_spots 48 = .ok (.ifCond .eq 5, 3) := by decide +kernel
theorem dX8_spots_51 : decode cX8_spots 51 = .ok (.iload_n 3, 1) := by decide +kernel
theorem dX8_spots_52 : decode cX8_spots 52 = .ok (.ireturn, 1) := by decide +kernel
theorem dX8_spots_53 : decode cX8_spots 53 = .ok (.aload_n 0, 1) := by decide +kernel
theorem dX8_spots_54 : decode cX8_spots 54 = .ok (.bipush 55, 2) := by decide +kernel
theorem dX8_spots_56 : decode cX8_spots 56 = .ok (.invokevirtual 146, 3) := by decide +kernel
theorem dX8_spots_59 : decode cX8_spots 59 = .ok (.pop, 1) := by decide +kernel
theorem dX8_spots_60 : decode cX8_spots 60 = .ok (.iinc 3 1, 3) := by decide +kernel
theorem dX8_spots_63 : decode cX8_spots 63 = .ok (.goto (-34), 3) := by decide +kernel
theorem dX8_spots_66 : decode cX8_spots 66 = .ok (.ldc 168, 2) := by decide +kernel
theorem dX8_spots_68 : decode cX8_spots 68 = .ok (.ireturn, 1) := by decide +kernel
set_option maxRecDepth 20000 in
theorem ggX8_off_X8_isStreet : GoodIn wsX8_off wsX8_isStreet := goodIn_r _ [9, 3, 51, 52, 53, 54, 55, 56, 57, 58, 59, 60, 61, 62, 63, 64, 65] (by decide +kernel) (by decide +kernel)
set_option maxRecDepth 20000 in
theorem gX8_off_X8_isStreet : GoodIn wsX8_off (wsV RX8 137 RX8 yX8_isStreet wsX8_isStreet) := goodIn_app (goodIn_of _ (by decide +kernel)) ggX8_off_X8_isStreet
set_option maxRecDepth 20000 in
theorem ggX8_off_X8_in : GoodIn wsX8_off wsX8_in := goodIn_r _ [12] (by decide +kernel) (by decide +kernel)
set_option maxRecDepth 20000 in
theorem gX8_off_X8_in : GoodIn wsX8_off (va_wsS RX8 31 yX8_in wsX8_in) := goodIn_app (goodIn_of _ (by decide +kernel)) ggX8_off_X8_in
set_option maxRecDepth 20000 in
theorem ggX8_off_X8_tries : GoodIn wsX8_off wsX8_tries := goodIn_r _ [16, 17, 18, 19, 8, 20, 3, 51, 52, 53, 54, 55, 56, 57, 58, 59, 60, 61, 62, 63, 64, 65] (by decide +kernel) (by decide +kernel)
set_option maxRecDepth 20000 in
theorem gX8_off_X8_tries : GoodIn wsX8_off (wsV RX8 162 RX8 yX8_tries wsX8_tries) := goodIn_app (goodIn_of _ (by decide +kernel)) ggX8_off_X8_tries
set_option maxRecDepth 20000 in
theorem ggX8_off_X8_passes : GoodIn wsX8_off wsX8_passes := goodIn_r _ [24, 3, 25, 26, 8, 27, 28, 29, 30, 31, 32, 33, 34, 35, 36, 37, 38, 39, 40, 41, 42, 43, 44, 45, 46, 47, 48, 49, 50, 51, 52, 53, 54, 55, 56, 57, 58, 59, 60, 61, 62, 63, 64, 65] (by decide +kernel) (by decide +kernel)
set_option maxRecDepth 20000 in
theorem gX8_off_X8_passes : GoodIn wsX8_off (wsV RX8 146 RX8 yX8_passes wsX8_passes) := goodIn_app (goodIn_of _ (by decide +kernel)) ggX8_off_X8_passes
theorem dX8_off_0 : decode cX8_off 0 = .ok (.aload_n 0, 1) := by decide +kernel
theorem dX8_off_1 : decode cX8_off 1 = .ok (.invokevirtual 137, 3) := by decide +kernel
theorem dX8_off_4 : decode cX8_off 4 = .ok (.ifCond .ne 6, 3) := by decide +kernel
theorem dX8_off_7 : decode cX8_off 7 = .ok (.ldc 140, 2) := by decide +kernel
theorem dX8_off_9 : decode cX8_off 9 = .ok (.ireturn, 1) := by decide +kernel
theorem dX8_off_10 : decode cX8_off 10 = .ok (.iload_n 1, 1) := by decide +kernel
theorem dX8_off_11 : decode cX8_off 11 = .ok (.i2l, 1) := by decide +kernel
theorem dX8_off_12 : decode cX8_off 12 = .ok (.lconst 0, 1) := by decide +kernel
theorem dX8_off_13 : decode cX8_off 13 = .ok (.lconst 1, 1) := by decide +kernel
theorem dX8_off_14 : decode cX8_off 14 = .ok (.invokestatic 31, 3) := by decide +kernel
theorem dX8_off_17 : decode cX8_off 17 = .ok (.ifCond .ne 6, 3) := by decide +kernel
theorem dX8_off_20 : decode cX8_off 20 = .ok (.ldc 48, 2) := by decide +kernel
theorem dX8_off_22 : decode cX8_off 22 = .ok (.ireturn, 1) := by decide +kernel
theorem dX8_off_23 : decode cX8_off 23 = .ok (.aload_n 0, 1) := by decide +kernel
theorem dX8_off_24 : decode cX8_off 24 = .ok (.invokevirtual 162, 3) := by decide +kernel
theorem dX8_off_27 : decode cX8_off 27 = .ok (.iconst 0, 1) := by decide +kernel
theorem dX8_off_28 : decode cX8_off 28 = .ok (.istore_n 2, 1) := by decide +kernel
theorem dX8_off_29 : decode cX8_off 29 = .ok (.iload_n 2, 1) := by decide +kernel
theorem dX8_off_30 : decode cX8_off 30 = .ok (.bipush 60, 2) := by decide +kernel
theorem dX8_off_32 : decode cX8_off 32 = .ok (.if_icmp .gt 56, 3) := by decide +kernel
theorem dX8_off_35 : decode cX8_off 35 = .ok (.iconst 0, 1) := by decide +kernel
theorem dX8_off_36 : decode cX8_off 36 = .ok (.istore_n 3, 1) := by decide +kernel
theorem dX8_off_37 : decode cX8_off 37 = .ok (.iload_n 3, 1) := by decide +kernel
theorem dX8_off_38 : decode cX8_off 38 = .ok (.aload_n 0, 1) := by decide +kernel
theorem dX8_off_39 : decode cX8_off 39 = .ok (.getfield 7, 3) := by decide +kernel
theorem dX8_off_42 : decode cX8_off 42 = .ok (.iconst 0, 1) := by decide +kernel
theorem dX8_off_43 : decode cX8_off 43 = .ok (.iaload, 1) := by decide +kernel
theorem dX8_off_44 : decode cX8_off 44 = .ok (.if_icmp .ge 31, 3) := by decide +kernel
theorem dX8_off_47 : decode cX8_off 47 = .ok (.aload_n 0, 1) := by decide +kernel
theorem dX8_off_48 : decode cX8_off 48 = .ok (.getfield 7, 3) := by decide +kernel
theorem dX8_off_51 : decode cX8_off 51 = .ok (.bipush 90, 2) := by decide +kernel
theorem dX8_off_53 : decode cX8_off 53 = .ok (.iload_n 3, 1) := by decide +kernel
theorem dX8_off_54 : decode cX8_off 54 = .ok (.iadd, 1) := by decide +kernel
theorem dX8_off_55 : decode cX8_off 55 = .ok (.iaload, 1) := by decide +kernel
theorem dX8_off_56 : decode cX8_off 56 = .ok (.ifCond .ne 13, 3) := by decide +kernel
theorem dX8_off_59 : decode cX8_off 59 = .ok (.iload_n 1, 1) := by decide +kernel
theorem dX8_off_60 : decode cX8_off 60 = .ok (.ifCond .ne 7, 3) := by decide +kernel
theorem dX8_off_63 : decode cX8_off 63 = .ok (.iload_n 3, 1) := by decide +kernel
theorem dX8_off_64 : decode cX8_off 64 = .ok (.goto 4, 3) := by decide +kernel
theorem dX8_off_67 : decode cX8_off 67 = .ok (.iload_n 2, 1) := by decide +kernel
theorem dX8_off_68 : decode cX8_off 68 = .ok (.ireturn, 1) := by decide +kernel
theorem dX8_off_69 : decode cX8_off 69 = .ok (.iinc 3 1, 3) := by decide +kernel
theorem dX8_off_72 : decode cX8_off 72 = .ok (.goto (-35), 3) := by decide +kernel
theorem dX8_off_75 : decode cX8_off 75 = .ok (.aload_n 0, 1) := by decide +kernel
theorem dX8_off_76 : decode cX8_off 76 = .ok (.bipush 55, 2) := by decide +kernel
theorem dX8_off_78 : decode cX8_off 78 = .ok (.invokevirtual 146, 3) := by decide +kernel
theorem dX8_off_81 : decode cX8_off 81 = .ok (.pop, 1) := by decide +kernel
theorem dX8_off_82 : decode cX8_off 82 = .ok (.iinc 2 1, 3) := by decide +kernel
theorem dX8_off_85 : decode cX8_off 85 = .ok (.goto (-56), 3) := by decide +kernel
theorem dX8_off_88 : decode cX8_off 88 = .ok (.ldc 168, 2) := by decide +kernel
theorem dX8_off_90 : decode cX8_off 90 = .ok (.ireturn, 1) := by decide +kernel
set_option maxRecDepth 20000 in
theorem ggX8_staysShut_X8_tries : GoodIn wsX8_staysShut wsX8_tries := goodIn_r _ [6, 7, 8, 9, 5, 10, 1, 41, 42, 43, 44, 45, 46, 47, 48, 49, 50, 51, 52, 53, 54, 55] (by decide +kernel) (by decide +kernel)
set_option maxRecDepth 20000 in
theorem gX8_staysShut_X8_tries : GoodIn wsX8_staysShut (wsV RX8 162 RX8 yX8_tries wsX8_tries) := goodIn_app (goodIn_of _ (by decide +kernel)) ggX8_staysShut_X8_tries
set_option maxRecDepth 20000 in
theorem ggX8_staysShut_X8_has : GoodIn wsX8_staysShut wsX8_has := goodIn_r _ [13] (by decide +kernel) (by decide +kernel)
set_option maxRecDepth 20000 in
theorem gX8_staysShut_X8_has : GoodIn wsX8_staysShut (va_wsS RX8 120 yX8_has wsX8_has) := goodIn_app (goodIn_of _ (by decide +kernel)) ggX8_staysShut_X8_has
set_option maxRecDepth 20000 in
theorem ggX8_staysShut_X8_passes : GoodIn wsX8_staysShut wsX8_passes := goodIn_r _ [17, 1, 11, 12, 5, 13, 18, 19, 20, 21, 22, 23, 24, 25, 26, 27, 28, 29, 30, 31, 32, 33, 34, 35, 36, 37, 38, 39, 40, 41, 42, 43, 44, 45, 46, 47, 48, 49, 50, 51, 52, 53, 54, 55] (by decide +kernel) (by decide +kernel)
set_option maxRecDepth 20000 in
theorem gX8_staysShut_X8_passes : GoodIn wsX8_staysShut (wsV RX8 146 RX8 yX8_passes wsX8_passes) := goodIn_app (goodIn_of _ (by decide +kernel)) ggX8_staysShut_X8_passes
theorem dX8_staysShut_0 : decode cX8_staysShut 0 = .ok (.aload_n 0, 1) := by decide +kernel
theorem dX8_staysShut_1 : decode cX8_staysShut 1 = .ok (.invokevirtual 162, 3) := by decide +kernel
theorem dX8_staysShut_4 : decode cX8_staysShut 4 = .ok (.iconst 0, 1) := by decide +kernel
theorem dX8_staysShut_5 : decode cX8_staysShut 5 = .ok (.istore 4, 2) := by decide +kernel
theorem dX8_staysShut_7 : decode cX8_staysShut 7 = .ok (.iload 4, 2) := by decide +kernel
theorem dX8_staysShut_9 : decode cX8_staysShut 9 = .ok (.aload_n 0, 1) := by decide +kernel
theorem dX8_staysShut_10 : decode cX8_staysShut 10 = .ok (.getfield 7, 3) := by decide +kernel
theorem dX8_staysShut_13 : decode cX8_staysShut 13 = .ok (.iconst 0, 1) := by decide +kernel
theorem dX8_staysShut_14 : decode cX8_staysShut 14 = .ok (.iaload, 1) := by decide +kernel
theorem dX8_staysShut_15 : decode cX8_staysShut 15 = .ok (.if_icmp .ge 43, 3) := by decide +kernel
theorem dX8_staysShut_18 : decode cX8_staysShut 18 = .ok (.aload_n 0, 1) := by decide +kernel
theorem dX8_staysShut_19 : decode cX8_staysShut 19 = .ok (.getfield 7, 3) := by decide +kernel
theorem dX8_staysShut_22 : decode cX8_staysShut 22 = .ok (.bipush 90, 2) := by decide +kernel
theorem dX8_staysShut_24 : decode cX8_staysShut 24 = .ok (.iload 4, 2) := by decide +kernel
theorem dX8_staysShut_26 : decode cX8_staysShut 26 = .ok (.iadd, 1) := by decide +kernel
theorem dX8_staysShut_27 : decode cX8_staysShut 27 = .ok (.iload_n 3, 1) := by decide +kernel
theorem dX8_staysShut_28 : decode cX8_staysShut 28 = .ok (.iload 4, 2) := by decide +kernel
theorem dX8_staysShut_30 : decode cX8_staysShut 30 = .ok (.invokestatic 120, 3) := by decide +kernel
theorem dX8_staysShut_33 : decode cX8_staysShut 33 = .ok (.ifCond .eq 8, 3) := by decide +kernel
theorem dX8_staysShut_36 : decode cX8_staysShut 36 = .ok (.bipush 9, 2) := by decide +kernel
theorem dX8_staysShut_38 : decode cX8_staysShut 38 = .ok (.goto 13, 3) := by decide +kernel
theorem dX8_staysShut_41 : decode cX8_staysShut 41 = .ok (.aload_n 0, 1) := by decide +kernel
theorem dX8_staysShut_42 : decode cX8_staysShut 42 = .ok (.getfield 7, 3) := by decide +kernel
theorem dX8_staysShut_45 : decode cX8_staysShut 45 = .ok (.bipush 35, 2) := by decide +kernel
theorem dX8_staysShut_47 : decode cX8_staysShut 47 = .ok (.iload 4, 2) := by decide +kernel
theorem dX8_staysShut_49 : decode cX8_staysShut 49 = .ok (.iadd, 1) := by decide +kernel
theorem dX8_staysShut_50 : decode cX8_staysShut 50 = .ok (.iaload, 1) := by decide +kernel
theorem dX8_staysShut_51 : decode cX8_staysShut 51 = .ok (.iastore, 1) := by decide +kernel
theorem dX8_staysShut_52 : decode cX8_staysShut 52 = .ok (.iinc 4 1, 3) := by decide +kernel
theorem dX8_staysShut_55 : decode cX8_staysShut 55 = .ok (.goto (-48), 3) := by decide +kernel
theorem dX8_staysShut_58 : decode cX8_staysShut 58 = .ok (.iconst 1, 1) := by decide +kernel
theorem dX8_staysShut_59 : decode cX8_staysShut 59 = .ok (.istore 4, 2) := by decide +kernel
theorem dX8_staysShut_61 : decode cX8_staysShut 61 = .ok (.iconst 0, 1) := by decide +kernel
theorem dX8_staysShut_62 : decode cX8_staysShut 62 = .ok (.istore 5, 2) := by decide +kernel
theorem dX8_staysShut_64 : decode cX8_staysShut 64 = .ok (.iload 5, 2) := by decide +kernel
theorem dX8_staysShut_66 : decode cX8_staysShut 66 = .ok (.iload_n 2, 1) := by decide +kernel
theorem dX8_staysShut_67 : decode cX8_staysShut 67 = .ok (.if_icmp .ge 34, 3) := by decide +kernel
theorem dX8_staysShut_70 : decode cX8_staysShut 70 = .ok (.iload 4, 2) := by decide +kernel
theorem dX8_staysShut_72 : decode cX8_staysShut 72 = .ok (.ifCond .eq 29, 3) := by decide +kernel
theorem dX8_staysShut_75 : decode cX8_staysShut 75 = .ok (.aload_n 0, 1) := by decide +kernel
theorem dX8_staysShut_76 : decode cX8_staysShut 76 = .ok (.bipush 55, 2) := by decide +kernel
theorem dX8_staysShut_78 : decode cX8_staysShut 78 = .ok (.invokevirtual 146, 3) := by decide +kernel
theorem dX8_staysShut_81 : decode cX8_staysShut 81 = .ok (.iload_n 1, 1) := by decide +kernel
theorem dX8_staysShut_82 : decode cX8_staysShut 82 = .ok (.invokestatic 120, 3) := by decide +kernel
theorem dX8_staysShut_85 : decode cX8_staysShut 85 = .ok (.ifCond .ne 7, 3) := by decide +kernel
theorem dX8_staysShut_88 : decode cX8_staysShut 88 = .ok (.iconst 1, 1) := by decide +kernel
theorem dX8_staysShut_89 : decode cX8_staysShut 89 = .ok (.goto 4, 3) := by decide +kernel
theorem dX8_staysShut_92 : decode cX8_staysShut 92 = .ok (.iconst 0, 1) := by decide +kernel
theorem dX8_staysShut_93 : decode cX8_staysShut 93 = .ok (.istore 4, 2) := by decide +kernel
theorem dX8_staysShut_95 : decode cX8_staysShut 95 = .ok (.iinc 5 1, 3) := by decide +kernel
theorem dX8_staysShut_98 : decode cX8_staysShut 98 = .ok (.goto (-34), 3) := by decide +kernel
theorem dX8_staysShut_101 : decode cX8_staysShut 101 = .ok (.iload 4, 2) := by decide +kernel
theorem dX8_staysShut_103 : decode cX8_staysShut 103 = .ok (.ireturn, 1) := by decide +kernel
set_option maxRecDepth 20000 in
theorem ggX8_shut_X8_isWindow : GoodIn wsX8_shut wsX8_isWindow := goodIn_r _ [10, 3, 11, 12, 9, 13, 59, 60, 61, 62, 63, 64, 65, 66, 67, 68, 69, 70, 71, 72, 73] (by decide +kernel) (by decide +kernel)
set_option maxRecDepth 20000 in
theorem gX8_shut_X8_isWindow : GoodIn wsX8_shut (wsV RX8 149 RX8 yX8_isWindow wsX8_isWindow) := goodIn_app (goodIn_of _ (by decide +kernel)) ggX8_shut_X8_isWindow
set_option maxRecDepth 20000 in
theorem ggX8_shut_X8_in : GoodIn wsX8_shut wsX8_in := goodIn_r _ [13] (by decide +kernel) (by decide +kernel)
set_option maxRecDepth 20000 in
theorem gX8_shut_X8_in : GoodIn wsX8_shut (va_wsS RX8 31 yX8_in wsX8_in) := goodIn_app (goodIn_of _ (by decide +kernel)) ggX8_shut_X8_in
set_option maxRecDepth 20000 in
theorem ggX8_shut_X8_has : GoodIn wsX8_shut wsX8_has := goodIn_r _ [16] (by decide +kernel) (by decide +kernel)
set_option maxRecDepth 20000 in
theorem gX8_shut_X8_has : GoodIn wsX8_shut (va_wsS RX8 120 yX8_has wsX8_has) := goodIn_app (goodIn_of _ (by decide +kernel)) ggX8_shut_X8_has
set_option maxRecDepth 20000 in
theorem ggX8_shut_X8_ones : GoodIn wsX8_shut wsX8_ones := goodIn_r _ [19] (by decide +kernel) (by decide +kernel)
set_option maxRecDepth 20000 in
theorem gX8_shut_X8_ones : GoodIn wsX8_shut (va_wsS RX8 170 yX8_ones wsX8_ones) := goodIn_app (goodIn_of _ (by decide +kernel)) ggX8_shut_X8_ones
set_option maxRecDepth 20000 in
theorem ggX8_shut_X8_staysShut : GoodIn wsX8_shut wsX8_staysShut := goodIn_r _ [23, 3, 24, 25, 26, 9, 27, 28, 29, 30, 31, 14, 15, 16, 32, 33, 34, 35, 36, 37, 38, 39, 40, 41, 42, 43, 44, 45, 46, 47, 48, 49, 50, 51, 52, 53, 54, 55, 56, 57, 58, 59, 60, 61, 62, 63, 64, 65, 66, 67, 68, 69, 70, 71, 72, 73] (by decide +kernel) (by decide +kernel)
set_option maxRecDepth 20000 in
theorem gX8_shut_X8_staysShut : GoodIn wsX8_shut (wsV RX8 173 RX8 yX8_staysShut wsX8_staysShut) := goodIn_app (goodIn_of _ (by decide +kernel)) ggX8_shut_X8_staysShut
theorem dX8_shut_0 : decode cX8_shut 0 = .ok (.aload_n 0, 1) := by decide +kernel
theorem dX8_shut_1 : decode cX8_shut 1 = .ok (.iload_n 1, 1) := by decide +kernel
theorem dX8_shut_2 : decode cX8_shut 2 = .ok (.invokevirtual 149, 3) := by decide +kernel
theorem dX8_shut_5 : decode cX8_shut 5 = .ok (.ifCond .eq 25, 3) := by decide +kernel
theorem dX8_shut_8 : decode cX8_shut 8 = .ok (.iload_n 2, 1) := by decide +kernel
theorem dX8_shut_9 : decode cX8_shut 9 = .ok (.i2l, 1) := by decide +kernel
theorem dX8_shut_10 : decode cX8_shut 10 = .ok (.lconst 1, 1) := by decide +kernel
theorem dX8_shut_11 : decode cX8_shut 11 = .ok (.ldc2_w 141, 3) := by decide +kernel
theorem dX8_shut_14 : decode cX8_shut 14 = .ok (.invokestatic 31, 3) := by decide +kernel
theorem dX8_shut_17 : decode cX8_shut 17 = .ok (.ifCond .eq 13, 3) := by decide +kernel
theorem dX8_shut_20 : decode cX8_shut 20 = .ok (.iload_n 3, 1) := by decide +kernel
theorem dX8_shut_21 : decode cX8_shut 21 = .ok (.i2l, 1) := by decide +kernel
theorem dX8_shut_22 : decode cX8_shut 22 = .ok (.lconst 0, 1) := by decide +kernel
theorem dX8_shut_23 : decode cX8_shut 23 = .ok (.lconst 1, 1) := by decide +kernel
theorem dX8_shut_24 : decode cX8_shut 24 = .ok (.invokestatic 31, 3) := by decide +kernel
theorem dX8_shut_27 : decode cX8_shut 27 = .ok (.ifCond .ne 6, 3) := by decide +kernel
theorem dX8_shut_30 : decode cX8_shut 30 = .ok (.ldc 48, 2) := by decide +kernel
theorem dX8_shut_32 : decode cX8_shut 32 = .ok (.ireturn, 1) := by decide +kernel
theorem dX8_shut_33 : decode cX8_shut 33 = .ok (.aload_n 0, 1) := by decide +kernel
theorem dX8_shut_34 : decode cX8_shut 34 = .ok (.getfield 7, 3) := by decide +kernel
theorem dX8_shut_37 : decode cX8_shut 37 = .ok (.iconst 4, 1) := by decide +kernel
theorem dX8_shut_38 : decode cX8_shut 38 = .ok (.iaload, 1) := by decide +kernel
theorem dX8_shut_39 : decode cX8_shut 39 = .ok (.iload_n 1, 1) := by decide +kernel
theorem dX8_shut_40 : decode cX8_shut 40 = .ok (.invokestatic 120, 3) := by decide +kernel
theorem dX8_shut_43 : decode cX8_shut 43 = .ok (.ifCond .eq 6, 3) := by decide +kernel
theorem dX8_shut_46 : decode cX8_shut 46 = .ok (.ldc 168, 2) := by decide +kernel
theorem dX8_shut_48 : decode cX8_shut 48 = .ok (.ireturn, 1) := by decide +kernel
theorem dX8_shut_49 : decode cX8_shut 49 = .ok (.ldc 168, 2) := by decide +kernel
theorem dX8_shut_51 : decode cX8_shut 51 = .ok (.istore 4, 2) := by decide +kernel
theorem dX8_shut_53 : decode cX8_shut 53 = .ok (.ldc 169, 2) := by decide +kernel
theorem dX8_shut_55 : decode cX8_shut 55 = .ok (.istore 5, 2) := by decide +kernel
theorem dX8_shut_57 : decode cX8_shut 57 = .ok (.iconst 0, 1) := by decide +kernel
theorem dX8_shut_58 : decode cX8_shut 58 = .ok (.istore 6, 2) := by decide +kernel
theorem dX8_shut_60 : decode cX8_shut 60 = .ok (.iload 6, 2) := by decide +kernel
theorem dX8_shut_62 : decode cX8_shut 62 = .ok (.iconst 1, 1) := by decide +kernel
theorem dX8_shut_63 : decode cX8_shut 63 = .ok (.aload_n 0, 1) := by decide +kernel
theorem dX8_shut_64 : decode cX8_shut 64 = .ok (.getfield 7, 3) := by decide +kernel
theorem dX8_shut_67 : decode cX8_shut 67 = .ok (.iconst 0, 1) := by decide +kernel
theorem dX8_shut_68 : decode cX8_shut 68 = .ok (.iaload, 1) := by decide +kernel
theorem dX8_shut_69 : decode cX8_shut 69 = .ok (.ishl, 1) := by decide +kernel
theorem dX8_shut_70 : decode cX8_shut 70 = .ok (.if_icmp .ge 41, 3) := by decide +kernel
theorem dX8_shut_73 : decode cX8_shut 73 = .ok (.iload 6, 2) := by decide +kernel
theorem dX8_shut_75 : decode cX8_shut 75 = .ok (.invokestatic 170, 3) := by decide +kernel
theorem dX8_shut_78 : decode cX8_shut 78 = .ok (.iload 5, 2) := by decide +kernel
theorem dX8_shut_80 : decode cX8_shut 80 = .ok (.if_icmp .ge 25, 3) := by decide +kernel
theorem dX8_shut_83 : decode cX8_shut 83 = .ok (.aload_n 0, 1) := by decide +kernel
theorem dX8_shut_84 : decode cX8_shut 84 = .ok (.iload_n 1, 1) := by decide +kernel
theorem dX8_shut_85 : decode cX8_shut 85 = .ok (.iload_n 2, 1) := by decide +kernel
theorem dX8_shut_86 : decode cX8_shut 86 = .ok (.iload 6, 2) := by decide +kernel
theorem dX8_shut_88 : decode cX8_shut 88 = .ok (.invokevirtual 173, 3) := by decide +kernel
theorem dX8_shut_91 : decode cX8_shut 91 = .ok (.ifCond .eq 14, 3) := by decide +kernel
theorem dX8_shut_94 : decode cX8_shut 94 = .ok (.iload 6, 2) := by decide +kernel
theorem dX8_shut_96 : decode cX8_shut 96 = .ok (.istore 4, 2) := by decide +kernel
theorem dX8_shut_98 : decode cX8_shut 98 = .ok (.iload 6, 2) := by decide +kernel
theorem dX8_shut_100 : decode cX8_shut 100 = .ok (.invokestatic 170, 3) := by decide +kernel
theorem dX8_shut_103 : decode cX8_shut 103 = .ok (.istore 5, 2) := by decide +kernel
theorem dX8_shut_105 : decode cX8_shut 105 = .ok (.iinc 6 1, 3) := by decide +kernel
theorem dX8_shut_108 : decode cX8_shut 108 = .ok (.goto (-48), 3) := by decide +kernel
theorem dX8_shut_111 : decode cX8_shut 111 = .ok (.iload 4, 2) := by decide +kernel
theorem dX8_shut_113 : decode cX8_shut 113 = .ok (.ldc 168, 2) := by decide +kernel
theorem dX8_shut_115 : decode cX8_shut 115 = .ok (.if_icmp .ne 8, 3) := by decide +kernel
theorem dX8_shut_118 : decode cX8_shut 118 = .ok (.ldc 168, 2) := by decide +kernel
theorem dX8_shut_120 : decode cX8_shut 120 = .ok (.goto 14, 3) := by decide +kernel
theorem dX8_shut_123 : decode cX8_shut 123 = .ok (.iload_n 3, 1) := by decide +kernel
theorem dX8_shut_124 : decode cX8_shut 124 = .ok (.ifCond .ne 8, 3) := by decide +kernel
theorem dX8_shut_127 : decode cX8_shut 127 = .ok (.iload 5, 2) := by decide +kernel
theorem dX8_shut_129 : decode cX8_shut 129 = .ok (.goto 5, 3) := by decide +kernel
theorem dX8_shut_132 : decode cX8_shut 132 = .ok (.iload 4, 2) := by decide +kernel
theorem dX8_shut_134 : decode cX8_shut 134 = .ok (.ireturn, 1) := by decide +kernel
set_option maxRecDepth 20000 in
theorem ggX8_trades_X8_isWindow : GoodIn wsX8_trades wsX8_isWindow := goodIn_r _ [9, 4, 10, 11, 8, 12, 62, 63, 64, 65, 66, 67, 68, 69, 70, 71, 72, 73, 74, 75, 76] (by decide +kernel) (by decide +kernel)
set_option maxRecDepth 20000 in
theorem gX8_trades_X8_isWindow : GoodIn wsX8_trades (wsV RX8 149 RX8 yX8_isWindow wsX8_isWindow) := goodIn_app (goodIn_of _ (by decide +kernel)) ggX8_trades_X8_isWindow
set_option maxRecDepth 20000 in
theorem ggX8_trades_X8_in : GoodIn wsX8_trades wsX8_in := goodIn_r _ [12] (by decide +kernel) (by decide +kernel)
set_option maxRecDepth 20000 in
theorem gX8_trades_X8_in : GoodIn wsX8_trades (va_wsS RX8 31 yX8_in wsX8_in) := goodIn_app (goodIn_of _ (by decide +kernel)) ggX8_trades_X8_in
set_option maxRecDepth 20000 in
theorem ggX8_trades_X8_tries : GoodIn wsX8_trades wsX8_tries := goodIn_r _ [16, 17, 18, 19, 8, 20, 4, 62, 63, 64, 65, 66, 67, 68, 69, 70, 71, 72, 73, 74, 75, 76] (by decide +kernel) (by decide +kernel)
set_option maxRecDepth 20000 in
theorem gX8_trades_X8_tries : GoodIn wsX8_trades (wsV RX8 162 RX8 yX8_tries wsX8_tries) := goodIn_app (goodIn_of _ (by decide +kernel)) ggX8_trades_X8_tries
set_option maxRecDepth 20000 in
theorem ggX8_trades_X8_swaps : GoodIn wsX8_trades wsX8_swaps := goodIn_r _ [24, 4, 62, 63, 64, 65, 66, 67, 68, 69, 70, 71, 72, 73, 74, 75, 76] (by decide +kernel) (by decide +kernel)
set_option maxRecDepth 20000 in
theorem gX8_trades_X8_swaps : GoodIn wsX8_trades (wsV RX8 154 RX8 yX8_swaps wsX8_swaps) := goodIn_app (goodIn_of _ (by decide +kernel)) ggX8_trades_X8_swaps
set_option maxRecDepth 20000 in
theorem ggX8_trades_X8_goesOn : GoodIn wsX8_trades wsX8_goesOn := goodIn_r _ [28, 29, 30, 31, 8, 32, 4, 33, 34, 35, 36, 37, 38, 39, 40, 41, 42, 43, 44, 45, 46, 47, 48, 49, 50, 51, 52, 53, 54, 55, 56, 57, 58, 62, 63, 64, 65, 66, 67, 68, 69, 70, 71, 72, 73, 74, 75, 76] (by decide +kernel) (by decide +kernel)
set_option maxRecDepth 20000 in
theorem gX8_trades_X8_goesOn : GoodIn wsX8_trades (wsV RX8 165 RX8 yX8_goesOn wsX8_goesOn) := goodIn_app (goodIn_of _ (by decide +kernel)) ggX8_trades_X8_goesOn
set_option maxRecDepth 20000 in
theorem ggX8_trades_X8_ones : GoodIn wsX8_trades wsX8_ones := goodIn_r _ [61] (by decide +kernel) (by decide +kernel)
set_option maxRecDepth 20000 in
theorem gX8_trades_X8_ones : GoodIn wsX8_trades (va_wsS RX8 170 yX8_ones wsX8_ones) := goodIn_app (goodIn_of _ (by decide +kernel)) ggX8_trades_X8_ones
theorem dX8_trades_0 : decode cX8_trades 0 = .ok (.aload_n 0, 1) := by decide +kernel
theorem dX8_trades_1 : decode cX8_trades 1 = .ok (.iload_n 1, 1) := by decide +kernel
theorem dX8_trades_2 : decode cX8_trades 2 = .ok (.invokevirtual 149, 3) := by decide +kernel
theorem dX8_trades_5 : decode cX8_trades 5 = .ok (.ifCond .eq 25, 3) := by decide +kernel
theorem dX8_trades_8 : decode cX8_trades 8 = .ok (.iload_n 2, 1) := by decide +kernel
theorem dX8_trades_9 : decode cX8_trades 9 = .ok (.i2l, 1) := by decide +kernel
theorem dX8_trades_10 : decode cX8_trades 10 = .ok (.lconst 1, 1) := by decide +kernel
theorem dX8_trades_11 : decode cX8_trades 11 = .ok (.ldc2_w 141, 3) := by decide +kernel
theorem dX8_trades_14 : decode cX8_trades 14 = .ok (.invokestatic 31, 3) := by decide +kernel
theorem dX8_trades_17 : decode cX8_trades 17 = .ok (.ifCond .eq 13, 3) := by decide +kernel
theorem dX8_trades_20 : decode cX8_trades 20 = .ok (.iload_n 3, 1) := by decide +kernel
theorem dX8_trades_21 : decode cX8_trades 21 = .ok (.i2l, 1) := by decide +kernel
theorem dX8_trades_22 : decode cX8_trades 22 = .ok (.lconst 0, 1) := by decide +kernel
theorem dX8_trades_23 : decode cX8_trades 23 = .ok (.lconst 1, 1) := by decide +kernel
theorem dX8_trades_24 : decode cX8_trades 24 = .ok (.invokestatic 31, 3) := by decide +kernel
theorem dX8_trades_27 : decode cX8_trades 27 = .ok (.ifCond .ne 6, 3) := by decide +kernel
theorem dX8_trades_30 : decode cX8_trades 30 = .ok (.ldc 48, 2) := by decide +kernel
theorem dX8_trades_32 : decode cX8_trades 32 = .ok (.ireturn, 1) := by decide +kernel
theorem dX8_trades_33 : decode cX8_trades 33 = .ok (.ldc 168, 2) := by decide +kernel
theorem dX8_trades_35 : decode cX8_trades 35 = .ok (.istore 4, 2) := by decide +kernel
theorem dX8_trades_37 : decode cX8_trades 37 = .ok (.iconst (-1), 1) := by decide +kernel
theorem dX8_trades_38 : decode cX8_trades 38 = .ok (.istore 5, 2) := by decide +kernel
theorem dX8_trades_40 : decode cX8_trades 40 = .ok (.iconst 0, 1) := by decide +kernel
theorem dX8_trades_41 : decode cX8_trades 41 = .ok (.istore 6, 2) := by decide +kernel
theorem dX8_trades_43 : decode cX8_trades 43 = .ok (.iload 6, 2) := by decide +kernel
theorem dX8_trades_45 : decode cX8_trades 45 = .ok (.aload_n 0, 1) := by decide +kernel
theorem dX8_trades_46 : decode cX8_trades 46 = .ok (.getfield 7, 3) := by decide +kernel
theorem dX8_trades_49 : decode cX8_trades 49 = .ok (.iconst 0, 1) := by decide +kernel
theorem dX8_trades_50 : decode cX8_trades 50 = .ok (.iaload, 1) := by decide +kernel
theorem dX8_trades_51 : decode cX8_trades 51 = .ok (.if_icmp .ge 103, 3) := by decide +kernel
theorem dX8_trades_54 : decode cX8_trades 54 = .ok (.iload 6, 2) := by decide +kernel
theorem dX8_trades_56 : decode cX8_trades 56 = .ok (.iconst 1, 1) := by decide +kernel
theorem dX8_trades_57 : decode cX8_trades 57 = .ok (.iadd, 1) := by decide +kernel
theorem dX8_trades_58 : decode cX8_trades 58 = .ok (.istore 7, 2) := by decide +kernel
theorem dX8_trades_60 : decode cX8_trades 60 = .ok (.iload 7, 2) := by decide +kernel
theorem dX8_trades_62 : decode cX8_trades 62 = .ok (.aload_n 0, 1) := by decide +kernel
theorem dX8_trades_63 : decode cX8_trades 63 = .ok (.getfield 7, 3) := by decide +kernel
theorem dX8_trades_66 : decode cX8_trades 66 = .ok (.iconst 0, 1) := by decide +kernel
theorem dX8_trades_67 : decode cX8_trades 67 = .ok (.iaload, 1) := by decide +kernel
theorem dX8_trades_68 : decode cX8_trades 68 = .ok (.if_icmp .ge 80, 3) := by decide +kernel
theorem dX8_trades_71 : decode cX8_trades 71 = .ok (.aload_n 0, 1) := by decide +kernel
theorem dX8_trades_72 : decode cX8_trades 72 = .ok (.invokevirtual 162, 3) := by decide +kernel
theorem dX8_trades_75 : decode cX8_trades 75 = .ok (.aload_n 0, 1) := by decide +kernel
theorem dX8_trades_76 : decode cX8_trades 76 = .ok (.bipush 55, 2) := by decide +kernel
theorem dX8_trades_78 : decode cX8_trades 78 = .ok (.iload 6, 2) := by decide +kernel
theorem dX8_trades_80 : decode cX8_trades 80 = .ok (.iload 7, 2) := by decide +kernel
theorem dX8_trades_82 : decode cX8_trades 82 = .ok (.invokevirtual 154, 3) := by decide +kernel
theorem dX8_trades_85 : decode cX8_trades 85 = .ok (.aload_n 0, 1) := by decide +kernel
theorem dX8_trades_86 : decode cX8_trades 86 = .ok (.iload_n 2, 1) := by decide +kernel
theorem dX8_trades_87 : decode cX8_trades 87 = .ok (.invokevirtual 165, 3) := by decide +kernel
theorem dX8_trades_90 : decode cX8_trades 90 = .ok (.aload_n 0, 1) := by decide +kernel
theorem dX8_trades_91 : decode cX8_trades 91 = .ok (.getfield 7, 3) := by decide +kernel
theorem dX8_trades_94 : decode cX8_trades 94 = .ok (.bipush 100, 2) := by decide +kernel
theorem dX8_trades_96 : decode cX8_trades 96 = .ok (.iload_n 1, 1) := by decide +kernel
theorem dX8_trades_97 : decode cX8_trades 97 = .ok (.iadd, 1) := by decide +kernel
theorem dX8_trades_98 : decode cX8_trades 98 = .ok (.iaload, 1) := by decide +kernel
theorem dX8_trades_99 : decode cX8_trades 99 = .ok (.invokestatic 170, 3) := by decide +kernel
theorem dX8_trades_102 : decode cX8_trades 102 = .ok (.istore 8, 2) := by decide +kernel
theorem dX8_trades_104 : decode cX8_trades 104 = .ok (.iload 8, 2) := by decide +kernel
theorem dX8_trades_106 : decode cX8_trades 106 = .ok (.iload 5, 2) := by decide +kernel
theorem dX8_trades_108 : decode cX8_trades 108 = .ok (.if_icmp .le 14, 3) := by decide +kernel
theorem dX8_trades_111 : decode cX8_trades 111 = .ok (.bipush 10, 2) := by decide +kernel
theorem dX8_trades_113 : decode cX8_trades 113 = .ok (.iload 6, 2) := by decide +kernel
theorem dX8_trades_115 : decode cX8_trades 115 = .ok (.imul, 1) := by decide +kernel
theorem dX8_trades_116 : decode cX8_trades 116 = .ok (.iload 7, 2) := by decide +kernel
theorem dX8_trades_118 : decode cX8_trades 118 = .ok (.iadd, 1) := by decide +kernel
theorem dX8_trades_119 : decode cX8_trades 119 = .ok (.goto 5, 3) := by decide +kernel
theorem dX8_trades_122 : decode cX8_trades 122 = .ok (.iload 4, 2) := by decide +kernel
theorem dX8_trades_124 : decode cX8_trades 124 = .ok (.istore 4, 2) := by decide +kernel
theorem dX8_trades_126 : decode cX8_trades 126 = .ok (.iload 8, 2) := by decide +kernel
theorem dX8_trades_128 : decode cX8_trades 128 = .ok (.iload 5, 2) := by decide +kernel
theorem dX8_trades_130 : decode cX8_trades 130 = .ok (.if_icmp .le 8, 3) := by decide +kernel
theorem dX8_trades_133 : decode cX8_trades 133 = .ok (.iload 8, 2) := by decide +kernel
theorem dX8_trades_135 : decode cX8_trades 135 = .ok (.goto 5, 3) := by decide +kernel
theorem dX8_trades_138 : decode cX8_trades 138 = .ok (.iload 5, 2) := by decide +kernel
theorem dX8_trades_140 : decode cX8_trades 140 = .ok (.istore 5, 2) := by decide +kernel
theorem dX8_trades_142 : decode cX8_trades 142 = .ok (.iinc 7 1, 3) := by decide +kernel
theorem dX8_trades_145 : decode cX8_trades 145 = .ok (.goto (-85), 3) := by decide +kernel
theorem dX8_trades_148 : decode cX8_trades 148 = .ok (.iinc 6 1, 3) := by decide +kernel
theorem dX8_trades_151 : decode cX8_trades 151 = .ok (.goto (-108), 3) := by decide +kernel
theorem dX8_trades_154 : decode cX8_trades 154 = .ok (.iload_n 3, 1) := by decide +kernel
theorem dX8_trades_155 : decode cX8_trades 155 = .ok (.ifCond .ne 8, 3) := by decide +kernel
theorem dX8_trades_158 : decode cX8_trades 158 = .ok (.iload 4, 2) := by decide +kernel
theorem dX8_trades_160 : decode cX8_trades 160 = .ok (.goto 5, 3) := by decide +kernel
theorem dX8_trades_163 : decode cX8_trades 163 = .ok (.iload 5, 2) := by decide +kernel
theorem dX8_trades_165 : decode cX8_trades 165 = .ok (.ireturn, 1) := by decide +kernel
set_option maxRecDepth 20000 in
theorem ggX8_along_X8_isWindow : GoodIn wsX8_along wsX8_isWindow := goodIn_r _ [7, 2, 8, 9, 6, 10, 20, 21, 22, 23, 24, 25, 26, 27, 28, 29, 30, 31, 32, 33, 34] (by decide +kernel) (by decide +kernel)
set_option maxRecDepth 20000 in
theorem gX8_along_X8_isWindow : GoodIn wsX8_along (wsV RX8 149 RX8 yX8_isWindow wsX8_isWindow) := goodIn_app (goodIn_of _ (by decide +kernel)) ggX8_along_X8_isWindow
set_option maxRecDepth 20000 in
theorem ggX8_along_X8_in : GoodIn wsX8_along wsX8_in := goodIn_r _ [10] (by decide +kernel) (by decide +kernel)
set_option maxRecDepth 20000 in
theorem gX8_along_X8_in : GoodIn wsX8_along (va_wsS RX8 31 yX8_in wsX8_in) := goodIn_app (goodIn_of _ (by decide +kernel)) ggX8_along_X8_in
set_option maxRecDepth 20000 in
theorem ggX8_along_X8_has : GoodIn wsX8_along wsX8_has := goodIn_r _ [13] (by decide +kernel) (by decide +kernel)
set_option maxRecDepth 20000 in
theorem gX8_along_X8_has : GoodIn wsX8_along (va_wsS RX8 120 yX8_has wsX8_has) := goodIn_app (goodIn_of _ (by decide +kernel)) ggX8_along_X8_has
set_option maxRecDepth 20000 in
theorem ggX8_along_X8_gap : GoodIn wsX8_along wsX8_gap := goodIn_r _ [16] (by decide +kernel) (by decide +kernel)
set_option maxRecDepth 20000 in
theorem gX8_along_X8_gap : GoodIn wsX8_along (va_wsS RX8 123 yX8_gap wsX8_gap) := goodIn_app (goodIn_of _ (by decide +kernel)) ggX8_along_X8_gap
set_option maxRecDepth 20000 in
theorem ggX8_along_X8_ones : GoodIn wsX8_along wsX8_ones := goodIn_r _ [19] (by decide +kernel) (by decide +kernel)
set_option maxRecDepth 20000 in
theorem gX8_along_X8_ones : GoodIn wsX8_along (va_wsS RX8 170 yX8_ones wsX8_ones) := goodIn_app (goodIn_of _ (by decide +kernel)) ggX8_along_X8_ones
theorem dX8_along_0 : decode cX8_along 0 = .ok (.aload_n 0, 1) := by decide +kernel
theorem dX8_along_1 : decode cX8_along 1 = .ok (.iload_n 1, 1) := by decide +kernel
theorem dX8_along_2 : decode cX8_along 2 = .ok (.invokevirtual 149, 3) := by decide +kernel
theorem dX8_along_5 : decode cX8_along 5 = .ok (.ifCond .eq 13, 3) := by decide +kernel
theorem dX8_along_8 : decode cX8_along 8 = .ok (.iload_n 2, 1) := by decide +kernel
theorem dX8_along_9 : decode cX8_along 9 = .ok (.i2l, 1) := by decide +kernel
theorem dX8_along_10 : decode cX8_along 10 = .ok (.lconst 0, 1) := by decide +kernel
theorem dX8_along_11 : decode cX8_along 11 = .ok (.lconst 1, 1) := by decide +kernel
theorem dX8_along_12 : decode cX8_along 12 = .ok (.invokestatic 31, 3) := by decide +kernel
theorem dX8_along_15 : decode cX8_along 15 = .ok (.ifCond .ne 6, 3) := by decide +kernel
theorem dX8_along_18 : decode cX8_along 18 = .ok (.ldc 48, 2) := by decide +kernel
theorem dX8_along_20 : decode cX8_along 20 = .ok (.ireturn, 1) := by decide +kernel
theorem dX8_along_21 : decode cX8_along 21 = .ok (.iconst 1, 1) := by decide +kernel
theorem dX8_along_22 : decode cX8_along 22 = .ok (.iload_n 1, 1) := by decide +kernel
theorem dX8_along_23 : decode cX8_along 23 = .ok (.ishl, 1) := by decide +kernel
theorem dX8_along_24 : decode cX8_along 24 = .ok (.istore_n 3, 1) := by decide +kernel
theorem dX8_along_25 : decode cX8_along 25 = .ok (.iconst 0, 1) := by decide +kernel
theorem dX8_along_26 : decode cX8_along 26 = .ok (.istore 4, 2) := by decide +kernel
theorem dX8_along_28 : decode cX8_along 28 = .ok (.iconst 1, 1) := by decide +kernel
theorem dX8_along_29 : decode cX8_along 29 = .ok (.istore 5, 2) := by decide +kernel
theorem dX8_along_31 : decode cX8_along 31 = .ok (.iload 5, 2) := by decide +kernel
theorem dX8_along_33 : decode cX8_along 33 = .ok (.ifCond .eq 132, 3) := by decide +kernel
theorem dX8_along_36 : decode cX8_along 36 = .ok (.iload_n 3, 1) := by decide +kernel
theorem dX8_along_37 : decode cX8_along 37 = .ok (.istore 6, 2) := by decide +kernel
theorem dX8_along_39 : decode cX8_along 39 = .ok (.iconst 0, 1) := by decide +kernel
theorem dX8_along_40 : decode cX8_along 40 = .ok (.istore 7, 2) := by decide +kernel
theorem dX8_along_42 : decode cX8_along 42 = .ok (.iload 7, 2) := by decide +kernel
theorem dX8_along_44 : decode cX8_along 44 = .ok (.aload_n 0, 1) := by decide +kernel
theorem dX8_along_45 : decode cX8_along 45 = .ok (.getfield 7, 3) := by decide +kernel
theorem dX8_along_48 : decode cX8_along 48 = .ok (.iconst 0, 1) := by decide +kernel
theorem dX8_along_49 : decode cX8_along 49 = .ok (.iaload, 1) := by decide +kernel
theorem dX8_along_50 : decode cX8_along 50 = .ok (.if_icmp .ge 81, 3) := by decide +kernel
theorem dX8_along_53 : decode cX8_along 53 = .ok (.iconst 0, 1) := by decide +kernel
theorem dX8_along_54 : decode cX8_along 54 = .ok (.istore 8, 2) := by decide +kernel
theorem dX8_along_56 : decode cX8_along 56 = .ok (.iload 8, 2) := by decide +kernel
theorem dX8_along_58 : decode cX8_along 58 = .ok (.aload_n 0, 1) := by decide +kernel
theorem dX8_along_59 : decode cX8_along 59 = .ok (.getfield 7, 3) := by decide +kernel
theorem dX8_along_62 : decode cX8_along 62 = .ok (.iconst 0, 1) := by decide +kernel
theorem dX8_along_63 : decode cX8_along 63 = .ok (.iaload, 1) := by decide +kernel
theorem dX8_along_64 : decode cX8_along 64 = .ok (.if_icmp .ge 61, 3) := by decide +kernel
theorem dX8_along_67 : decode cX8_along 67 = .ok (.aload_n 0, 1) := by decide +kernel
theorem dX8_along_68 : decode cX8_along 68 = .ok (.getfield 7, 3) := by decide +kernel
theorem dX8_along_71 : decode cX8_along 71 = .ok (.iconst 4, 1) := by decide +kernel
theorem dX8_along_72 : decode cX8_along 72 = .ok (.iaload, 1) := by decide +kernel
theorem dX8_along_73 : decode cX8_along 73 = .ok (.iload 7, 2) := by decide +kernel
theorem dX8_along_75 : decode cX8_along 75 = .ok (.invokestatic 120, 3) := by decide +kernel
theorem dX8_along_78 : decode cX8_along 78 = .ok (.ifCond .ne 47, 3) := by decide +kernel
theorem dX8_along_81 : decode cX8_along 81 = .ok (.iload 6, 2) := by decide +kernel
theorem dX8_along_83 : decode cX8_along 83 = .ok (.iload_n 3, 1) := by decide +kernel
theorem dX8_along_84 : decode cX8_along 84 = .ok (.iload 8, 2) := by decide +kernel
theorem dX8_along_86 : decode cX8_along 86 = .ok (.invokestatic 120, 3) := by decide +kernel
theorem dX8_along_89 : decode cX8_along 89 = .ok (.ifCond .eq 26, 3) := by decide +kernel
theorem dX8_along_92 : decode cX8_along 92 = .ok (.iload 8, 2) := by decide +kernel
theorem dX8_along_94 : decode cX8_along 94 = .ok (.iload 7, 2) := by decide +kernel
theorem dX8_along_96 : decode cX8_along 96 = .ok (.invokestatic 123, 3) := by decide +kernel
theorem dX8_along_99 : decode cX8_along 99 = .ok (.aload_n 0, 1) := by decide +kernel
theorem dX8_along_100 : decode cX8_along 100 = .ok (.getfield 7, 3) := by decide +kernel
theorem dX8_along_103 : decode cX8_along 103 = .ok (.iconst 2, 1) := by decide +kernel
theorem dX8_along_104 : decode cX8_along 104 = .ok (.iaload, 1) := by decide +kernel
theorem dX8_along_105 : decode cX8_along 105 = .ok (.if_icmp .gt 10, 3) := by decide +kernel
theorem dX8_along_108 : decode cX8_along 108 = .ok (.iconst 1, 1) := by decide +kernel
theorem dX8_along_109 : decode cX8_along 109 = .ok (.iload 7, 2) := by decide +kernel
theorem dX8_along_111 : decode cX8_along 111 = .ok (.ishl, 1) := by decide +kernel
theorem dX8_along_112 : decode cX8_along 112 = .ok (.goto 4, 3) := by decide +kernel
theorem dX8_along_115 : decode cX8_along 115 = .ok (.iconst 0, 1) := by decide +kernel
theorem dX8_along_116 : decode cX8_along 116 = .ok (.ior, 1) := by decide +kernel
theorem dX8_along_117 : decode cX8_along 117 = .ok (.istore 6, 2) := by decide +kernel
theorem dX8_along_119 : decode cX8_along 119 = .ok (.iinc 8 1, 3) := by decide +kernel
theorem dX8_along_122 : decode cX8_along 122 = .ok (.goto (-66), 3) := by decide +kernel
theorem dX8_along_125 : decode cX8_along 125 = .ok (.iinc 7 1, 3) := by decide +kernel
theorem dX8_along_128 : decode cX8_along 128 = .ok (.goto (-86), 3) := by decide +kernel
theorem dX8_along_131 : decode cX8_along 131 = .ok (.iload 6, 2) := by decide +kernel
theorem dX8_along_133 : decode cX8_along 133 = .ok (.iload_n 3, 1) := by decide +kernel
theorem dX8_along_134 : decode cX8_along 134 = .ok (.if_icmp .eq 7, 3) := by decide +kernel
theorem dX8_along_137 : decode cX8_along 137 = .ok (.iconst 1, 1) := by decide +kernel
theorem dX8_along_138 : decode cX8_along 138 = .ok (.goto 4, 3) := by decide +kernel
theorem dX8_along_141 : decode cX8_along 141 = .ok (.iconst 0, 1) := by decide +kernel
theorem dX8_along_142 : decode cX8_along 142 = .ok (.istore 5, 2) := by decide +kernel
theorem dX8_along_144 : decode cX8_along 144 = .ok (.iload 4, 2) := by decide +kernel
theorem dX8_along_146 : decode cX8_along 146 = .ok (.iload 5, 2) := by decide +kernel
theorem dX8_along_148 : decode cX8_along 148 = .ok (.ifCond .eq 7, 3) := by decide +kernel
theorem dX8_along_151 : decode cX8_along 151 = .ok (.iconst 1, 1) := by decide +kernel
theorem dX8_along_152 : decode cX8_along 152 = .ok (.goto 4, 3) := by decide +kernel
theorem dX8_along_155 : decode cX8_along 155 = .ok (.iconst 0, 1) := by decide +kernel
theorem dX8_along_156 : decode cX8_along 156 = .ok (.iadd, 1) := by decide +kernel
theorem dX8_along_157 : decode cX8_along 157 = .ok (.istore 4, 2) := by decide +kernel
theorem dX8_along_159 : decode cX8_along 159 = .ok (.iload 6, 2) := by decide +kernel
theorem dX8_along_161 : decode cX8_along 161 = .ok (.istore_n 3, 1) := by decide +kernel
theorem dX8_along_162 : decode cX8_along 162 = .ok (.goto (-131), 3) := by decide +kernel
theorem dX8_along_165 : decode cX8_along 165 = .ok (.iload_n 2, 1) := by decide +kernel
theorem dX8_along_166 : decode cX8_along 166 = .ok (.ifCond .ne 8, 3) := by decide +kernel
theorem dX8_along_169 : decode cX8_along 169 = .ok (.iload 4, 2) := by decide +kernel
theorem dX8_along_171 : decode cX8_along 171 = .ok (.goto 7, 3) := by decide +kernel
theorem dX8_along_174 : decode cX8_along 174 = .ok (.iload_n 3, 1) := by decide +kernel
theorem dX8_along_175 : decode cX8_along 175 = .ok (.invokestatic 170, 3) := by decide +kernel
theorem dX8_along_178 : decode cX8_along 178 = .ok (.ireturn, 1) := by decide +kernel
set_option maxRecDepth 20000 in
theorem ggX8_alike_X8_isStreet : GoodIn wsX8_alike wsX8_isStreet := goodIn_r _ [9, 4, 13, 14, 15, 16, 17, 18, 19, 20, 21, 22, 23, 24, 25, 26, 27] (by decide +kernel) (by decide +kernel)
set_option maxRecDepth 20000 in
theorem gX8_alike_X8_isStreet : GoodIn wsX8_alike (wsV RX8 137 RX8 yX8_isStreet wsX8_isStreet) := goodIn_app (goodIn_of _ (by decide +kernel)) ggX8_alike_X8_isStreet
set_option maxRecDepth 20000 in
theorem ggX8_alike_X8_in : GoodIn wsX8_alike wsX8_in := goodIn_r _ [12] (by decide +kernel) (by decide +kernel)
set_option maxRecDepth 20000 in
theorem gX8_alike_X8_in : GoodIn wsX8_alike (va_wsS RX8 31 yX8_in wsX8_in) := goodIn_app (goodIn_of _ (by decide +kernel)) ggX8_alike_X8_in
theorem dX8_alike_0 : decode cX8_alike 0 = .ok (.aload_n 0, 1) := by decide +kernel
theorem dX8_alike_1 : decode cX8_alike 1 = .ok (.invokevirtual 137, 3) := by decide +kernel
theorem dX8_alike_4 : decode cX8_alike 4 = .ok (.ifCond .ne 6, 3) := by decide +kernel
theorem dX8_alike_7 : decode cX8_alike 7 = .ok (.ldc 140, 2) := by decide +kernel
theorem dX8_alike_9 : decode cX8_alike 9 = .ok (.ireturn, 1) := by decide +kernel
theorem dX8_alike_10 : decode cX8_alike 10 = .ok (.iload_n 1, 1) := by decide +kernel
theorem dX8_alike_11 : decode cX8_alike 11 = .ok (.i2l, 1) := by decide +kernel
theorem dX8_alike_12 : decode cX8_alike 12 = .ok (.lconst 0, 1) := by decide +kernel
theorem dX8_alike_13 : decode cX8_alike 13 = .ok (.lconst 1, 1) := by decide +kernel
theorem dX8_alike_14 : decode cX8_alike 14 = .ok (.invokestatic 31, 3) := by decide +kernel
theorem dX8_alike_17 : decode cX8_alike 17 = .ok (.ifCond .ne 6, 3) := by decide +kernel
theorem dX8_alike_20 : decode cX8_alike 20 = .ok (.ldc 48, 2) := by decide +kernel
theorem dX8_alike_22 : decode cX8_alike 22 = .ok (.ireturn, 1) := by decide +kernel
theorem dX8_alike_23 : decode cX8_alike 23 = .ok (.iconst 0, 1) := by decide +kernel
theorem dX8_alike_24 : decode cX8_alike 24 = .ok (.istore_n 2, 1) := by decide +kernel
theorem dX8_alike_25 : decode cX8_alike 25 = .ok (.ldc 168, 2) := by decide +kernel
theorem dX8_alike_27 : decode cX8_alike 27 = .ok (.istore_n 3, 1) := by decide +kernel
theorem dX8_alike_28 : decode cX8_alike 28 = .ok (.iconst 0, 1) := by decide +kernel
theorem dX8_alike_29 : decode cX8_alike 29 = .ok (.istore 4, 2) := by decide +kernel
theorem dX8_alike_31 : decode cX8_alike 31 = .ok (.iload 4, 2) := by decide +kernel
theorem dX8_alike_33 : decode cX8_alike 33 = .ok (.aload_n 0, 1) := by decide +kernel
theorem dX8_alike_34 : decode cX8_alike 34 = .ok (.getfield 7, 3) := by decide +kernel
theorem dX8_alike_37 : decode cX8_alike 37 = .ok (.iconst 0, 1) := by decide +kernel
theorem dX8_alike_38 : decode cX8_alike 38 = .ok (.iaload, 1) := by decide +kernel
theorem dX8_alike_39 : decode cX8_alike 39 = .ok (.if_icmp .ge 75, 3) := by decide +kernel
theorem dX8_alike_42 : decode cX8_alike 42 = .ok (.iload 4, 2) := by decide +kernel
theorem dX8_alike_44 : decode cX8_alike 44 = .ok (.iconst 1, 1) := by decide +kernel
theorem dX8_alike_45 : decode cX8_alike 45 = .ok (.iadd, 1) := by decide +kernel
theorem dX8_alike_46 : decode cX8_alike 46 = .ok (.istore 5, 2) := by decide +kernel
theorem dX8_alike_48 : decode cX8_alike 48 = .ok (.iload 5, 2) := by decide +kernel
theorem dX8_alike_50 : decode cX8_alike 50 = .ok (.aload_n 0, 1) := by decide +kernel
theorem dX8_alike_51 : decode cX8_alike 51 = .ok (.getfield 7, 3) := by decide +kernel
theorem dX8_alike_54 : decode cX8_alike 54 = .ok (.iconst 0, 1) := by decide +kernel
theorem dX8_alike_55 : decode cX8_alike 55 = .ok (.iaload, 1) := by decide +kernel
theorem dX8_alike_56 : decode cX8_alike 56 = .ok (.if_icmp .ge 52, 3) := by decide +kernel
theorem dX8_alike_59 : decode cX8_alike 59 = .ok (.aload_n 0, 1) := by decide +kernel
theorem dX8_alike_60 : decode cX8_alike 60 = .ok (.getfield 7, 3) := by decide +kernel
theorem dX8_alike_63 : decode cX8_alike 63 = .ok (.bipush 15, 2) := by decide +kernel
theorem dX8_alike_65 : decode cX8_alike 65 = .ok (.iload 4, 2) := by decide +kernel
theorem dX8_alike_67 : decode cX8_alike 67 = .ok (.iadd, 1) := by decide +kernel
theorem dX8_alike_68 : decode cX8_alike 68 = .ok (.iaload, 1) := by decide +kernel
theorem dX8_alike_69 : decode cX8_alike 69 = .ok (.aload_n 0, 1) := by decide +kernel
theorem dX8_alike_70 : decode cX8_alike 70 = .ok (.getfield 7, 3) := by decide +kernel
theorem dX8_alike_73 : decode cX8_alike 73 = .ok (.bipush 15, 2) := by decide +kernel
theorem dX8_alike_75 : decode cX8_alike 75 = .ok (.iload 5, 2) := by decide +kernel
theorem dX8_alike_77 : decode cX8_alike 77 = .ok (.iadd, 1) := by decide +kernel
theorem dX8_alike_78 : decode cX8_alike 78 = .ok (.iaload, 1) := by decide +kernel
theorem dX8_alike_79 : decode cX8_alike 79 = .ok (.if_icmp .ne 23, 3) := by decide +kernel
theorem dX8_alike_82 : decode cX8_alike 82 = .ok (.iload_n 2, 1) := by decide +kernel
theorem dX8_alike_83 : decode cX8_alike 83 = .ok (.ifCond .ne 14, 3) := by decide +kernel
theorem dX8_alike_86 : decode cX8_alike 86 = .ok (.bipush 10, 2) := by decide +kernel
theorem dX8_alike_88 : decode cX8_alike 88 = .ok (.iload 4, 2) := by decide +kernel
theorem dX8_alike_90 : decode cX8_alike 90 = .ok (.imul, 1) := by decide +kernel
theorem dX8_alike_91 : decode cX8_alike 91 = .ok (.iload 5, 2) := by decide +kernel
theorem dX8_alike_93 : decode cX8_alike 93 = .ok (.iadd, 1) := by decide +kernel
theorem dX8_alike_94 : decode cX8_alike 94 = .ok (.goto 4, 3) := by decide +kernel
theorem dX8_alike_97 : decode cX8_alike 97 = .ok (.iload_n 3, 1) := by decide +kernel
theorem dX8_alike_98 : decode cX8_alike 98 = .ok (.istore_n 3, 1) := by decide +kernel
theorem dX8_alike_99 : decode cX8_alike 99 = .ok (.iinc 2 1, 3) := by decide +kernel
theorem dX8_alike_102 : decode cX8_alike 102 = .ok (.iinc 5 1, 3) := by decide +kernel
theorem dX8_alike_105 : decode cX8_alike 105 = .ok (.goto (-57), 3) := by decide +kernel
theorem dX8_alike_108 : decode cX8_alike 108 = .ok (.iinc 4 1, 3) := by decide +kernel
theorem dX8_alike_111 : decode cX8_alike 111 = .ok (.goto (-80), 3) := by decide +kernel
theorem dX8_alike_114 : decode cX8_alike 114 = .ok (.iload_n 1, 1) := by decide +kernel
theorem dX8_alike_115 : decode cX8_alike 115 = .ok (.ifCond .ne 7, 3) := by decide +kernel
theorem dX8_alike_118 : decode cX8_alike 118 = .ok (.iload_n 2, 1) := by decide +kernel
theorem dX8_alike_119 : decode cX8_alike 119 = .ok (.goto 4, 3) := by decide +kernel
theorem dX8_alike_122 : decode cX8_alike 122 = .ok (.iload_n 3, 1) := by decide +kernel
theorem dX8_alike_123 : decode cX8_alike 123 = .ok (.ireturn, 1) := by decide +kernel
set_option maxRecDepth 20000 in
theorem ggX8_guess_X8_isWindow : GoodIn wsX8_guess wsX8_isWindow := goodIn_r _ [7, 2, 8, 9, 6, 10, 11, 12, 13, 14, 15, 16, 17, 18, 19, 20, 21, 22, 23, 24, 25] (by decide +kernel) (by decide +kernel)
set_option maxRecDepth 20000 in
theorem gX8_guess_X8_isWindow : GoodIn wsX8_guess (wsV RX8 149 RX8 yX8_isWindow wsX8_isWindow) := goodIn_app (goodIn_of _ (by decide +kernel)) ggX8_guess_X8_isWindow
theorem dX8_guess_0 : decode cX8_guess 0 = .ok (.aload_n 0, 1) := by decide +kernel
theorem dX8_guess_1 : decode cX8_guess 1 = .ok (.iload_n 1, 1) := by decide +kernel
theorem dX8_guess_2 : decode cX8_guess 2 = .ok (.invokevirtual 149, 3) := by decide +kernel
theorem dX8_guess_5 : decode cX8_guess 5 = .ok (.ifCond .ne 6, 3) := by decide +kernel
theorem dX8_guess_8 : decode cX8_guess 8 = .ok (.ldc 48, 2) := by decide +kernel
theorem dX8_guess_10 : decode cX8_guess 10 = .ok (.ireturn, 1) := by decide +kernel
theorem dX8_guess_11 : decode cX8_guess 11 = .ok (.iconst 0, 1) := by decide +kernel
theorem dX8_guess_12 : decode cX8_guess 12 = .ok (.istore_n 2, 1) := by decide +kernel
theorem dX8_guess_13 : decode cX8_guess 13 = .ok (.iconst 0, 1) := by decide +kernel
theorem dX8_guess_14 : decode cX8_guess 14 = .ok (.istore_n 3, 1) := by decide +kernel
theorem dX8_guess_15 : decode cX8_guess 15 = .ok (.iload_n 3, 1) := by decide +kernel
theorem dX8_guess_16 : decode cX8_guess 16 = .ok (.aload_n 0, 1) := by decide +kernel
theorem dX8_guess_17 : decode cX8_guess 17 = .ok (.getfield 7, 3) := by decide +kernel
theorem dX8_guess_20 : decode cX8_guess 20 = .ok (.iconst 0, 1) := by decide +kernel
theorem dX8_guess_21 : decode cX8_guess 21 = .ok (.iaload, 1) := by decide +kernel
theorem dX8_guess_22 : decode cX8_guess 22 = .ok (.if_icmp .ge 23, 3) := by decide +kernel
theorem dX8_guess_25 : decode cX8_guess 25 = .ok (.iload_n 2, 1) := by decide +kernel
theorem dX8_guess_26 : decode cX8_guess 26 = .ok (.iconst 1, 1) := by decide +kernel
theorem dX8_guess_27 : decode cX8_guess 27 = .ok (.aload_n 0, 1) := by decide +kernel
theorem dX8_guess_28 : decode cX8_guess 28 = .ok (.getfield 7, 3) := by decide +kernel
theorem dX8_guess_31 : decode cX8_guess 31 = .ok (.bipush 15, 2) := by decide +kernel
theorem dX8_guess_33 : decode cX8_guess 33 = .ok (.iload_n 3, 1) := by decide +kernel
theorem dX8_guess_34 : decode cX8_guess 34 = .ok (.iadd, 1) := by decide +kernel
theorem dX8_guess_35 : decode cX8_guess 35 = .ok (.iaload, 1) := by decide +kernel
theorem dX8_guess_36 : decode cX8_guess 36 = .ok (.ishl, 1) := by decide +kernel
theorem dX8_guess_37 : decode cX8_guess 37 = .ok (.ior, 1) := by decide +kernel
theorem dX8_guess_38 : decode cX8_guess 38 = .ok (.istore_n 2, 1) := by decide +kernel
theorem dX8_guess_39 : decode cX8_guess 39 = .ok (.iinc 3 1, 3) := by decide +kernel
theorem dX8_guess_42 : decode cX8_guess 42 = .ok (.goto (-27), 3) := by decide +kernel
theorem dX8_guess_45 : decode cX8_guess 45 = .ok (.iload_n 2, 1) := by decide +kernel
theorem dX8_guess_46 : decode cX8_guess 46 = .ok (.aload_n 0, 1) := by decide +kernel
theorem dX8_guess_47 : decode cX8_guess 47 = .ok (.getfield 7, 3) := by decide +kernel
theorem dX8_guess_50 : decode cX8_guess 50 = .ok (.bipush 45, 2) := by decide +kernel
theorem dX8_guess_52 : decode cX8_guess 52 = .ok (.iload_n 1, 1) := by decide +kernel
theorem dX8_guess_53 : decode cX8_guess 53 = .ok (.iadd, 1) := by decide +kernel
theorem dX8_guess_54 : decode cX8_guess 54 = .ok (.iaload, 1) := by decide +kernel
theorem dX8_guess_55 : decode cX8_guess 55 = .ok (.iconst (-1), 1) := by decide +kernel
theorem dX8_guess_56 : decode cX8_guess 56 = .ok (.ixor, 1) := by decide +kernel
theorem dX8_guess_57 : decode cX8_guess 57 = .ok (.iand, 1) := by decide +kernel
theorem dX8_guess_58 : decode cX8_guess 58 = .ok (.ireturn, 1) := by decide +kernel
set_option maxRecDepth 20000 in
theorem ggX8_isSo_X8_passes : GoodIn wsX8_isSo wsX8_passes := goodIn_r _ [7, 1, 8, 9, 6, 10, 11, 12, 13, 14, 15, 16, 17, 18, 19, 20, 21, 22, 23, 24, 25, 26, 27, 28, 29, 30, 31, 32, 33, 34, 35, 36, 37, 38, 39, 40, 41, 42, 43, 44, 45, 46, 47, 48] (by decide +kernel) (by decide +kernel)
set_option maxRecDepth 20000 in
theorem gX8_isSo_X8_passes : GoodIn wsX8_isSo (wsV RX8 146 RX8 yX8_passes wsX8_passes) := goodIn_app (goodIn_of _ (by decide +kernel)) ggX8_isSo_X8_passes
theorem dX8_isSo_0 : decode cX8_isSo 0 = .ok (.iconst 1, 1) := by decide +kernel
theorem dX8_isSo_1 : decode cX8_isSo 1 = .ok (.istore 4, 2) := by decide +kernel
theorem dX8_isSo_3 : decode cX8_isSo 3 = .ok (.iconst 0, 1) := by decide +kernel
theorem dX8_isSo_4 : decode cX8_isSo 4 = .ok (.istore 5, 2) := by decide +kernel
theorem dX8_isSo_6 : decode cX8_isSo 6 = .ok (.iload 5, 2) := by decide +kernel
theorem dX8_isSo_8 : decode cX8_isSo 8 = .ok (.iload_n 3, 1) := by decide +kernel
theorem dX8_isSo_9 : decode cX8_isSo 9 = .ok (.if_icmp .ge 51, 3) := by decide +kernel
theorem dX8_isSo_12 : decode cX8_isSo 12 = .ok (.iload 4, 2) := by decide +kernel
theorem dX8_isSo_14 : decode cX8_isSo 14 = .ok (.ifCond .eq 46, 3) := by decide +kernel
theorem dX8_isSo_17 : decode cX8_isSo 17 = .ok (.aload_n 0, 1) := by decide +kernel
theorem dX8_isSo_18 : decode cX8_isSo 18 = .ok (.bipush 55, 2) := by decide +kernel
theorem dX8_isSo_20 : decode cX8_isSo 20 = .ok (.invokevirtual 146, 3) := by decide +kernel
theorem dX8_isSo_23 : decode cX8_isSo 23 = .ok (.pop, 1) := by decide +kernel
theorem dX8_isSo_24 : decode cX8_isSo 24 = .ok (.aload_n 0, 1) := by decide +kernel
theorem dX8_isSo_25 : decode cX8_isSo 25 = .ok (.getfield 7, 3) := by decide +kernel
theorem dX8_isSo_28 : decode cX8_isSo 28 = .ok (.bipush 59, 2) := by decide +kernel
theorem dX8_isSo_30 : decode cX8_isSo 30 = .ok (.iaload, 1) := by decide +kernel
theorem dX8_isSo_31 : decode cX8_isSo 31 = .ok (.iload_n 1, 1) := by decide +kernel
theorem dX8_isSo_32 : decode cX8_isSo 32 = .ok (.ishr, 1) := by decide +kernel
theorem dX8_isSo_33 : decode cX8_isSo 33 = .ok (.iconst 1, 1) := by decide +kernel
theorem dX8_isSo_34 : decode cX8_isSo 34 = .ok (.iand, 1) := by decide +kernel
theorem dX8_isSo_35 : decode cX8_isSo 35 = .ok (.aload_n 0, 1) := by decide +kernel
theorem dX8_isSo_36 : decode cX8_isSo 36 = .ok (.getfield 22, 3) := by decide +kernel
theorem dX8_isSo_39 : decode cX8_isSo 39 = .ok (.iload_n 2, 1) := by decide +kernel
theorem dX8_isSo_40 : decode cX8_isSo 40 = .ok (.iload 5, 2) := by decide +kernel
theorem dX8_isSo_42 : decode cX8_isSo 42 = .ok (.iadd, 1) := by decide +kernel
theorem dX8_isSo_43 : decode cX8_isSo 43 = .ok (.iaload, 1) := by decide +kernel
theorem dX8_isSo_44 : decode cX8_isSo 44 = .ok (.if_icmp .ne 7, 3) := by decide +kernel
theorem dX8_isSo_47 : decode cX8_isSo 47 = .ok (.iconst 1, 1) := by decide +kernel
theorem dX8_isSo_48 : decode cX8_isSo 48 = .ok (.goto 4, 3) := by decide +kernel
theorem dX8_isSo_51 : decode cX8_isSo 51 = .ok (.iconst 0, 1) := by decide +kernel
theorem dX8_isSo_52 : decode cX8_isSo 52 = .ok (.istore 4, 2) := by decide +kernel
theorem dX8_isSo_54 : decode cX8_isSo 54 = .ok (.iinc 5 1, 3) := by decide +kernel
theorem dX8_isSo_57 : decode cX8_isSo 57 = .ok (.goto (-51), 3) := by decide +kernel
theorem dX8_isSo_60 : decode cX8_isSo 60 = .ok (.iload 4, 2) := by decide +kernel
theorem dX8_isSo_62 : decode cX8_isSo 62 = .ok (.ireturn, 1) := by decide +kernel
set_option maxRecDepth 20000 in
theorem ggX8_fits_X8_isWindow : GoodIn wsX8_fits wsX8_isWindow := goodIn_r _ [10, 5, 11, 12, 9, 13, 71, 72, 73, 74, 75, 76, 77, 78, 79, 80, 81, 82, 83, 84, 85] (by decide +kernel) (by decide +kernel)
set_option maxRecDepth 20000 in
theorem gX8_fits_X8_isWindow : GoodIn wsX8_fits (wsV RX8 149 RX8 yX8_isWindow wsX8_isWindow) := goodIn_app (goodIn_of _ (by decide +kernel)) ggX8_fits_X8_isWindow
set_option maxRecDepth 20000 in
theorem ggX8_fits_X8_isRow : GoodIn wsX8_fits wsX8_isRow := goodIn_r _ [16, 17, 11, 12, 9, 13] (by decide +kernel) (by decide +kernel)
set_option maxRecDepth 20000 in
theorem gX8_fits_X8_isRow : GoodIn wsX8_fits (va_wsS RX8 42 yX8_isRow wsX8_isRow) := goodIn_app (goodIn_of _ (by decide +kernel)) ggX8_fits_X8_isRow
set_option maxRecDepth 20000 in
theorem ggX8_fits_X8_in : GoodIn wsX8_fits wsX8_in := goodIn_r _ [13] (by decide +kernel) (by decide +kernel)
set_option maxRecDepth 20000 in
theorem gX8_fits_X8_in : GoodIn wsX8_fits (va_wsS RX8 31 yX8_in wsX8_in) := goodIn_app (goodIn_of _ (by decide +kernel)) ggX8_fits_X8_in
set_option maxRecDepth 20000 in
theorem ggX8_fits_X8_against : GoodIn wsX8_fits wsX8_against := goodIn_r _ [21, 22, 71, 72, 73, 74, 75, 76, 77, 78, 79, 80, 81, 82, 83, 84, 85] (by decide +kernel) (by decide +kernel)
set_option maxRecDepth 20000 in
theorem gX8_fits_X8_against : GoodIn wsX8_fits (wsV RX8 53 RX8 yX8_against wsX8_against) := goodIn_app (goodIn_of _ (by decide +kernel)) ggX8_fits_X8_against
set_option maxRecDepth 20000 in
theorem ggX8_fits_X8_finds : GoodIn wsX8_fits wsX8_finds := goodIn_r _ [26, 4, 27, 71, 72, 73, 74, 75, 76, 77, 78, 79, 80, 81, 82, 83, 84, 85] (by decide +kernel) (by decide +kernel)
set_option maxRecDepth 20000 in
theorem gX8_fits_X8_finds : GoodIn wsX8_fits (wsV RX8 49 RX8 yX8_finds wsX8_finds) := goodIn_app (goodIn_of _ (by decide +kernel)) ggX8_fits_X8_finds
set_option maxRecDepth 20000 in
theorem ggX8_fits_X8_tries : GoodIn wsX8_fits wsX8_tries := goodIn_r _ [31, 32, 33, 34, 9, 35, 5, 71, 72, 73, 74, 75, 76, 77, 78, 79, 80, 81, 82, 83, 84, 85] (by decide +kernel) (by decide +kernel)
set_option maxRecDepth 20000 in
theorem gX8_fits_X8_tries : GoodIn wsX8_fits (wsV RX8 162 RX8 yX8_tries wsX8_tries) := goodIn_app (goodIn_of _ (by decide +kernel)) ggX8_fits_X8_tries
set_option maxRecDepth 20000 in
theorem ggX8_fits_X8_isSo : GoodIn wsX8_fits wsX8_isSo := goodIn_r _ [39, 5, 40, 41, 42, 43, 9, 44, 45, 46, 47, 48, 49, 50, 51, 52, 53, 54, 55, 56, 57, 58, 59, 60, 61, 62, 63, 64, 65, 66, 67, 68, 69, 70, 71, 72, 73, 74, 75, 76, 77, 78, 79, 80, 81, 82, 83, 84, 85] (by decide +kernel) (by decide +kernel)
set_option maxRecDepth 20000 in
theorem gX8_fits_X8_isSo : GoodIn wsX8_fits (wsV RX8 179 RX8 yX8_isSo wsX8_isSo) := goodIn_app (goodIn_of _ (by decide +kernel)) ggX8_fits_X8_isSo
theorem dX8_fits_0 : decode cX8_fits 0 = .ok (.aload_n 0, 1) := by decide +kernel
theorem dX8_fits_1 : decode cX8_fits 1 = .ok (.iload_n 1, 1) := by decide +kernel
theorem dX8_fits_2 : decode cX8_fits 2 = .ok (.invokevirtual 149, 3) := by decide +kernel
theorem dX8_fits_5 : decode cX8_fits 5 = .ok (.ifCond .eq 36, 3) := by decide +kernel
theorem dX8_fits_8 : decode cX8_fits 8 = .ok (.iload_n 2, 1) := by decide +kernel
theorem dX8_fits_9 : decode cX8_fits 9 = .ok (.invokestatic 42, 3) := by decide +kernel
theorem dX8_fits_12 : decode cX8_fits 12 = .ok (.ifCond .eq 29, 3) := by decide +kernel
theorem dX8_fits_15 : decode cX8_fits 15 = .ok (.iload 4, 2) := by decide +kernel
theorem dX8_fits_17 : decode cX8_fits 17 = .ok (.i2l, 1) := by decide +kernel
theorem dX8_fits_18 : decode cX8_fits 18 = .ok (.lconst 1, 1) := by decide +kernel
theorem dX8_fits_19 : decode cX8_fits 19 = .ok (.ldc2_w 177, 3) := by decide +kernel
theorem dX8_fits_22 : decode cX8_fits 22 = .ok (.invokestatic 31, 3) := by decide +kernel
theorem dX8_fits_25 : decode cX8_fits 25 = .ok (.ifCond .eq 16, 3) := by decide +kernel
theorem dX8_fits_28 : decode cX8_fits 28 = .ok (.iload 5, 2) := by decide +kernel
theorem dX8_fits_30 : decode cX8_fits 30 = .ok (.i2l, 1) := by decide +kernel
theorem dX8_fits_31 : decode cX8_fits 31 = .ok (.lconst 0, 1) := by decide +kernel
theorem dX8_fits_32 : decode cX8_fits 32 = .ok (.ldc2_w 158, 3) := by decide +kernel
theorem dX8_fits_35 : decode cX8_fits 35 = .ok (.invokestatic 31, 3) := by decide +kernel
theorem dX8_fits_38 : decode cX8_fits 38 = .ok (.ifCond .ne 6, 3) := by decide +kernel
theorem dX8_fits_41 : decode cX8_fits 41 = .ok (.ldc 48, 2) := by decide +kernel
theorem dX8_fits_43 : decode cX8_fits 43 = .ok (.ireturn, 1) := by decide +kernel
theorem dX8_fits_44 : decode cX8_fits 44 = .ok (.aload_n 0, 1) := by decide +kernel
theorem dX8_fits_45 : decode cX8_fits 45 = .ok (.iload_n 2, 1) := by decide +kernel
theorem dX8_fits_46 : decode cX8_fits 46 = .ok (.iload_n 3, 1) := by decide +kernel
theorem dX8_fits_47 : decode cX8_fits 47 = .ok (.iload 4, 2) := by decide +kernel
theorem dX8_fits_49 : decode cX8_fits 49 = .ok (.invokevirtual 53, 3) := by decide +kernel
theorem dX8_fits_52 : decode cX8_fits 52 = .ok (.istore 6, 2) := by decide +kernel
theorem dX8_fits_54 : decode cX8_fits 54 = .ok (.iload 6, 2) := by decide +kernel
theorem dX8_fits_56 : decode cX8_fits 56 = .ok (.ifCond .le 10, 3) := by decide +kernel
theorem dX8_fits_59 : decode cX8_fits 59 = .ok (.aload_n 0, 1) := by decide +kernel
theorem dX8_fits_60 : decode cX8_fits 60 = .ok (.iload 6, 2) := by decide +kernel
theorem dX8_fits_62 : decode cX8_fits 62 = .ok (.invokevirtual 49, 3) := by decide +kernel
theorem dX8_fits_65 : decode cX8_fits 65 = .ok (.ireturn, 1) := by decide +kernel
theorem dX8_fits_66 : decode cX8_fits 66 = .ok (.aload_n 0, 1) := by decide +kernel
theorem dX8_fits_67 : decode cX8_fits 67 = .ok (.iconst 0, 1) := by decide +kernel
theorem dX8_fits_68 : decode cX8_fits 68 = .ok (.putfield 37, 3) := by decide +kernel
theorem dX8_fits_71 : decode cX8_fits 71 = .ok (.iload 5, 2) := by decide +kernel
theorem dX8_fits_73 : decode cX8_fits 73 = .ok (.ifCond .ne 9, 3) := by decide +kernel
theorem dX8_fits_76 : decode cX8_fits 76 = .ok (.iconst 5, 1) := by decide +kernel
theorem dX8_fits_77 : decode cX8_fits 77 = .ok (.iload_n 1, 1) := by decide +kernel
theorem dX8_fits_78 : decode cX8_fits 78 = .ok (.iadd, 1) := by decide +kernel
theorem dX8_fits_79 : decode cX8_fits 79 = .ok (.goto 30, 3) := by decide +kernel
theorem dX8_fits_82 : decode cX8_fits 82 = .ok (.iload 5, 2) := by decide +kernel
theorem dX8_fits_84 : decode cX8_fits 84 = .ok (.iconst 1, 1) := by decide +kernel
theorem dX8_fits_85 : decode cX8_fits 85 = .ok (.if_icmp .ne 10, 3) := by decide +kernel
theorem dX8_fits_88 : decode cX8_fits 88 = .ok (.bipush 25, 2) := by decide +kernel
theorem dX8_fits_90 : decode cX8_fits 90 = .ok (.iload_n 1, 1) := by decide +kernel
theorem dX8_fits_91 : decode cX8_fits 91 = .ok (.iadd, 1) := by decide +kernel
theorem dX8_fits_92 : decode cX8_fits 92 = .ok (.goto 17, 3) := by decide +kernel
theorem dX8_fits_95 : decode cX8_fits 95 = .ok (.iload 5, 2) := by decide +kernel
theorem dX8_fits_97 : decode cX8_fits 97 = .ok (.iconst 2, 1) := by decide +kernel
theorem dX8_fits_98 : decode cX8_fits 98 = .ok (.if_icmp .ne 10, 3) := by decide +kernel
theorem dX8_fits_101 : decode cX8_fits 101 = .ok (.bipush 35, 2) := by decide +kernel
theorem dX8_fits_103 : decode cX8_fits 103 = .ok (.iload_n 1, 1) := by decide +kernel
theorem dX8_fits_104 : decode cX8_fits 104 = .ok (.iadd, 1) := by decide +kernel
theorem dX8_fits_105 : decode cX8_fits 105 = .ok (.goto 4, 3) := by decide +kernel
theorem dX8_fits_108 : decode cX8_fits 108 = .ok (.iconst 1, 1) := by decide +kernel
theorem dX8_fits_109 : decode cX8_fits 109 = .ok (.istore 7, 2) := by decide +kernel
theorem dX8_fits_111 : decode cX8_fits 111 = .ok (.iload 5, 2) := by decide +kernel
theorem dX8_fits_113 : decode cX8_fits 113 = .ok (.iconst 2, 1) := by decide +kernel
theorem dX8_fits_114 : decode cX8_fits 114 = .ok (.if_icmp .ne 7, 3) := by decide +kernel
theorem dX8_fits_117 : decode cX8_fits 117 = .ok (.iconst 0, 1) := by decide +kernel
theorem dX8_fits_118 : decode cX8_fits 118 = .ok (.goto 14, 3) := by decide +kernel
theorem dX8_fits_121 : decode cX8_fits 121 = .ok (.iload 5, 2) := by decide +kernel
theorem dX8_fits_123 : decode cX8_fits 123 = .ok (.iconst 3, 1) := by decide +kernel
theorem dX8_fits_124 : decode cX8_fits 124 = .ok (.if_icmp .ne 7, 3) := by decide +kernel
theorem dX8_fits_127 : decode cX8_fits 127 = .ok (.iconst 2, 1) := by decide +kernel
theorem dX8_fits_128 : decode cX8_fits 128 = .ok (.goto 4, 3) := by decide +kernel
theorem dX8_fits_131 : decode cX8_fits 131 = .ok (.iconst 1, 1) := by decide +kernel
theorem dX8_fits_132 : decode cX8_fits 132 = .ok (.istore 8, 2) := by decide +kernel
theorem dX8_fits_134 : decode cX8_fits 134 = .ok (.iload 5, 2) := by decide +kernel
theorem dX8_fits_136 : decode cX8_fits 136 = .ok (.ifCond .ne 7, 3) := by decide +kernel
theorem dX8_fits_139 : decode cX8_fits 139 = .ok (.iconst 5, 1) := by decide +kernel
theorem dX8_fits_140 : decode cX8_fits 140 = .ok (.goto 16, 3) := by decide +kernel
theorem dX8_fits_143 : decode cX8_fits 143 = .ok (.iload 5, 2) := by decide +kernel
theorem dX8_fits_145 : decode cX8_fits 145 = .ok (.iconst 2, 1) := by decide +kernel
theorem dX8_fits_146 : decode cX8_fits 146 = .ok (.if_icmp .ne 8, 3) := by decide +kernel
theorem dX8_fits_149 : decode cX8_fits 149 = .ok (.bipush 9, 2) := by decide +kernel
theorem dX8_fits_151 : decode cX8_fits 151 = .ok (.goto 5, 3) := by decide +kernel
theorem dX8_fits_154 : decode cX8_fits 154 = .ok (.bipush 24, 2) := by decide +kernel
theorem dX8_fits_156 : decode cX8_fits 156 = .ok (.istore 9, 2) := by decide +kernel
theorem dX8_fits_158 : decode cX8_fits 158 = .ok (.iconst 0, 1) := by decide +kernel
theorem dX8_fits_159 : decode cX8_fits 159 = .ok (.istore 10, 2) := by decide +kernel
theorem dX8_fits_161 : decode cX8_fits 161 = .ok (.iload 8, 2) := by decide +kernel
theorem dX8_fits_163 : decode cX8_fits 163 = .ok (.istore 11, 2) := by decide +kernel
theorem dX8_fits_165 : decode cX8_fits 165 = .ok (.iload 11, 2) := by decide +kernel
theorem dX8_fits_167 : decode cX8_fits 167 = .ok (.iload 9, 2) := by decide +kernel
theorem dX8_fits_169 : decode cX8_fits 169 = .ok (.if_icmp .gt 54, 3) := by decide +kernel
theorem dX8_fits_172 : decode cX8_fits 172 = .ok (.aload_n 0, 1) := by decide +kernel
theorem dX8_fits_173 : decode cX8_fits 173 = .ok (.invokevirtual 162, 3) := by decide +kernel
theorem dX8_fits_176 : decode cX8_fits 176 = .ok (.aload_n 0, 1) := by decide +kernel
theorem dX8_fits_177 : decode cX8_fits 177 = .ok (.getfield 7, 3) := by decide +kernel
theorem dX8_fits_180 : decode cX8_fits 180 = .ok (.bipush 55, 2) := by decide +kernel
theorem dX8_fits_182 : decode cX8_fits 182 = .ok (.iload 7, 2) := by decide +kernel
theorem dX8_fits_184 : decode cX8_fits 184 = .ok (.iadd, 1) := by decide +kernel
theorem dX8_fits_185 : decode cX8_fits 185 = .ok (.iload 11, 2) := by decide +kernel
theorem dX8_fits_187 : decode cX8_fits 187 = .ok (.iastore, 1) := by decide +kernel
theorem dX8_fits_188 : decode cX8_fits 188 = .ok (.iload 10, 2) := by decide +kernel
theorem dX8_fits_190 : decode cX8_fits 190 = .ok (.aload_n 0, 1) := by decide +kernel
theorem dX8_fits_191 : decode cX8_fits 191 = .ok (.iload_n 1, 1) := by decide +kernel
theorem dX8_fits_192 : decode cX8_fits 192 = .ok (.bipush 40, 2) := by decide +kernel
theorem dX8_fits_194 : decode cX8_fits 194 = .ok (.iload_n 2, 1) := by decide +kernel
theorem dX8_fits_195 : decode cX8_fits 195 = .ok (.imul, 1) := by decide +kernel
theorem dX8_fits_196 : decode cX8_fits 196 = .ok (.iload_n 3, 1) := by decide +kernel
theorem dX8_fits_197 : decode cX8_fits 197 = .ok (.iadd, 1) := by decide +kernel
theorem dX8_fits_198 : decode cX8_fits 198 = .ok (.iload 4, 2) := by decide +kernel
theorem dX8_fits_200 : decode cX8_fits 200 = .ok (.invokevirtual 179, 3) := by decide +kernel
theorem dX8_fits_203 : decode cX8_fits 203 = .ok (.ifCond .eq 10, 3) := by decide +kernel
theorem dX8_fits_206 : decode cX8_fits 206 = .ok (.iconst 1, 1) := by decide +kernel
theorem dX8_fits_207 : decode cX8_fits 207 = .ok (.iload 11, 2) := by decide +kernel
theorem dX8_fits_209 : decode cX8_fits 209 = .ok (.ishl, 1) := by decide +kernel
theorem dX8_fits_210 : decode cX8_fits 210 = .ok (.goto 4, 3) := by decide +kernel
theorem dX8_fits_213 : decode cX8_fits 213 = .ok (.iconst 0, 1) := by decide +kernel
theorem dX8_fits_214 : decode cX8_fits 214 = .ok (.ior, 1) := by decide +kernel
theorem dX8_fits_215 : decode cX8_fits 215 = .ok (.istore 10, 2) := by decide +kernel
theorem dX8_fits_217 : decode cX8_fits 217 = .ok (.iinc 11 1, 3) := by decide +kernel
theorem dX8_fits_220 : decode cX8_fits 220 = .ok (.goto (-55), 3) := by decide +kernel
theorem dX8_fits_223 : decode cX8_fits 223 = .ok (.iload 10, 2) := by decide +kernel
theorem dX8_fits_225 : decode cX8_fits 225 = .ok (.ireturn, 1) := by decide +kernel
set_option maxRecDepth 20000 in
theorem ggX8_wind_X8_isWindow : GoodIn wsX8_wind wsX8_isWindow := goodIn_r _ [9, 4, 10, 11, 8, 12, 55, 56, 57, 58, 59, 60, 61, 62, 63, 64, 65, 66, 67, 68, 69] (by decide +kernel) (by decide +kernel)
set_option maxRecDepth 20000 in
theorem gX8_wind_X8_isWindow : GoodIn wsX8_wind (wsV RX8 149 RX8 yX8_isWindow wsX8_isWindow) := goodIn_app (goodIn_of _ (by decide +kernel)) ggX8_wind_X8_isWindow
set_option maxRecDepth 20000 in
theorem ggX8_wind_X8_in : GoodIn wsX8_wind wsX8_in := goodIn_r _ [12] (by decide +kernel) (by decide +kernel)
set_option maxRecDepth 20000 in
theorem gX8_wind_X8_in : GoodIn wsX8_wind (va_wsS RX8 31 yX8_in wsX8_in) := goodIn_app (goodIn_of _ (by decide +kernel)) ggX8_wind_X8_in
set_option maxRecDepth 20000 in
theorem ggX8_wind_X8_has : GoodIn wsX8_wind wsX8_has := goodIn_r _ [15] (by decide +kernel) (by decide +kernel)
set_option maxRecDepth 20000 in
theorem gX8_wind_X8_has : GoodIn wsX8_wind (va_wsS RX8 120 yX8_has wsX8_has) := goodIn_app (goodIn_of _ (by decide +kernel)) ggX8_wind_X8_has
set_option maxRecDepth 20000 in
theorem ggX8_wind_X8_tries : GoodIn wsX8_wind wsX8_tries := goodIn_r _ [19, 20, 21, 22, 8, 23, 4, 55, 56, 57, 58, 59, 60, 61, 62, 63, 64, 65, 66, 67, 68, 69] (by decide +kernel) (by decide +kernel)
set_option maxRecDepth 20000 in
theorem gX8_wind_X8_tries : GoodIn wsX8_wind (wsV RX8 162 RX8 yX8_tries wsX8_tries) := goodIn_app (goodIn_of _ (by decide +kernel)) ggX8_wind_X8_tries
set_option maxRecDepth 20000 in
theorem ggX8_wind_X8_goesOn : GoodIn wsX8_wind wsX8_goesOn := goodIn_r _ [27, 28, 29, 30, 8, 31, 4, 13, 14, 15, 32, 33, 34, 35, 36, 37, 38, 39, 40, 41, 42, 43, 44, 45, 46, 47, 48, 49, 50, 51, 52, 53, 54, 55, 56, 57, 58, 59, 60, 61, 62, 63, 64, 65, 66, 67, 68, 69] (by decide +kernel) (by decide +kernel)
set_option maxRecDepth 20000 in
theorem gX8_wind_X8_goesOn : GoodIn wsX8_wind (wsV RX8 165 RX8 yX8_goesOn wsX8_goesOn) := goodIn_app (goodIn_of _ (by decide +kernel)) ggX8_wind_X8_goesOn
theorem dX8_wind_0 : decode cX8_wind 0 = .ok (.aload_n 0, 1) := by decide +kernel
theorem dX8_wind_1 : decode cX8_wind 1 = .ok (.iload_n 1, 1) := by decide +kernel
theorem dX8_wind_2 : decode cX8_wind 2 = .ok (.invokevirtual 149, 3) := by decide +kernel
theorem dX8_wind_5 : decode cX8_wind 5 = .ok (.ifCond .eq 38, 3) := by decide +kernel
theorem dX8_wind_8 : decode cX8_wind 8 = .ok (.iload_n 2, 1) := by decide +kernel
theorem dX8_wind_9 : decode cX8_wind 9 = .ok (.i2l, 1) := by decide +kernel
theorem dX8_wind_10 : decode cX8_wind 10 = .ok (.lconst 0, 1) := by decide +kernel
theorem dX8_wind_11 : decode cX8_wind 11 = .ok (.ldc2_w 141, 3) := by decide +kernel
theorem dX8_wind_14 : decode cX8_wind 14 = .ok (.invokestatic 31, 3) := by decide +kernel
theorem dX8_wind_17 : decode cX8_wind 17 = .ok (.ifCond .eq 26, 3) := by decide +kernel
theorem dX8_wind_20 : decode cX8_wind 20 = .ok (.iload_n 3, 1) := by decide +kernel
theorem dX8_wind_21 : decode cX8_wind 21 = .ok (.i2l, 1) := by decide +kernel
theorem dX8_wind_22 : decode cX8_wind 22 = .ok (.lconst 0, 1) := by decide +kernel
theorem dX8_wind_23 : decode cX8_wind 23 = .ok (.ldc2_w 182, 3) := by decide +kernel
theorem dX8_wind_26 : decode cX8_wind 26 = .ok (.invokestatic 31, 3) := by decide +kernel
theorem dX8_wind_29 : decode cX8_wind 29 = .ok (.ifCond .eq 14, 3) := by decide +kernel
theorem dX8_wind_32 : decode cX8_wind 32 = .ok (.iload 4, 2) := by decide +kernel
theorem dX8_wind_34 : decode cX8_wind 34 = .ok (.i2l, 1) := by decide +kernel
theorem dX8_wind_35 : decode cX8_wind 35 = .ok (.lconst 0, 1) := by decide +kernel
theorem dX8_wind_36 : decode cX8_wind 36 = .ok (.lconst 1, 1) := by decide +kernel
theorem dX8_wind_37 : decode cX8_wind 37 = .ok (.invokestatic 31, 3) := by decide +kernel
theorem dX8_wind_40 : decode cX8_wind 40 = .ok (.ifCond .ne 7, 3) := by decide +kernel
theorem dX8_wind_43 : decode cX8_wind 43 = .ok (.ldc2_w 184, 3) := by decide +kernel
theorem dX8_wind_46 : decode cX8_wind 46 = .ok (.lreturn, 1) := by decide +kernel
theorem dX8_wind_47 : decode cX8_wind 47 = .ok (.lconst 0, 1) := by decide +kernel
theorem dX8_wind_48 : decode cX8_wind 48 = .ok (.lstore 5, 2) := by decide +kernel
theorem dX8_wind_50 : decode cX8_wind 50 = .ok (.lconst 1, 1) := by decide +kernel
theorem dX8_wind_51 : decode cX8_wind 51 = .ok (.lstore 7, 2) := by decide +kernel
theorem dX8_wind_53 : decode cX8_wind 53 = .ok (.iconst 0, 1) := by decide +kernel
theorem dX8_wind_54 : decode cX8_wind 54 = .ok (.istore 9, 2) := by decide +kernel
theorem dX8_wind_56 : decode cX8_wind 56 = .ok (.iload 9, 2) := by decide +kernel
theorem dX8_wind_58 : decode cX8_wind 58 = .ok (.aload_n 0, 1) := by decide +kernel
theorem dX8_wind_59 : decode cX8_wind 59 = .ok (.getfield 7, 3) := by decide +kernel
theorem dX8_wind_62 : decode cX8_wind 62 = .ok (.iconst 0, 1) := by decide +kernel
theorem dX8_wind_63 : decode cX8_wind 63 = .ok (.iaload, 1) := by decide +kernel
theorem dX8_wind_64 : decode cX8_wind 64 = .ok (.if_icmp .ge 35, 3) := by decide +kernel
theorem dX8_wind_67 : decode cX8_wind 67 = .ok (.lload 7, 2) := by decide +kernel
theorem dX8_wind_69 : decode cX8_wind 69 = .ok (.aload_n 0, 1) := by decide +kernel
theorem dX8_wind_70 : decode cX8_wind 70 = .ok (.getfield 7, 3) := by decide +kernel
theorem dX8_wind_73 : decode cX8_wind 73 = .ok (.iconst 4, 1) := by decide +kernel
theorem dX8_wind_74 : decode cX8_wind 74 = .ok (.iaload, 1) := by decide +kernel
theorem dX8_wind_75 : decode cX8_wind 75 = .ok (.iload 9, 2) := by decide +kernel
theorem dX8_wind_77 : decode cX8_wind 77 = .ok (.invokestatic 120, 3) := by decide +kernel
theorem dX8_wind_80 : decode cX8_wind 80 = .ok (.ifCond .eq 7, 3) := by decide +kernel
theorem dX8_wind_83 : decode cX8_wind 83 = .ok (.lconst 1, 1) := by decide +kernel
theorem dX8_wind_84 : decode cX8_wind 84 = .ok (.goto 6, 3) := by decide +kernel
theorem dX8_wind_87 : decode cX8_wind 87 = .ok (.ldc2_w 182, 3) := by decide +kernel
theorem dX8_wind_90 : decode cX8_wind 90 = .ok (.lmul, 1) := by decide +kernel
theorem dX8_wind_91 : decode cX8_wind 91 = .ok (.lstore 7, 2) := by decide +kernel
theorem dX8_wind_93 : decode cX8_wind 93 = .ok (.iinc 9 1, 3) := by decide +kernel
theorem dX8_wind_96 : decode cX8_wind 96 = .ok (.goto (-40), 3) := by decide +kernel
theorem dX8_wind_99 : decode cX8_wind 99 = .ok (.iconst 0, 1) := by decide +kernel
theorem dX8_wind_100 : decode cX8_wind 100 = .ok (.istore 9, 2) := by decide +kernel
theorem dX8_wind_102 : decode cX8_wind 102 = .ok (.iload 9, 2) := by decide +kernel
theorem dX8_wind_104 : decode cX8_wind 104 = .ok (.iconst 1, 1) := by decide +kernel
theorem dX8_wind_105 : decode cX8_wind 105 = .ok (.aload_n 0, 1) := by decide +kernel
theorem dX8_wind_106 : decode cX8_wind 106 = .ok (.getfield 7, 3) := by decide +kernel
theorem dX8_wind_109 : decode cX8_wind 109 = .ok (.iconst 0, 1) := by decide +kernel
theorem dX8_wind_110 : decode cX8_wind 110 = .ok (.iaload, 1) := by decide +kernel
theorem dX8_wind_111 : decode cX8_wind 111 = .ok (.ishl, 1) := by decide +kernel
theorem dX8_wind_112 : decode cX8_wind 112 = .ok (.if_icmp .ge 140, 3) := by decide +kernel
theorem dX8_wind_115 : decode cX8_wind 115 = .ok (.iload 9, 2) := by decide +kernel
theorem dX8_wind_117 : decode cX8_wind 117 = .ok (.aload_n 0, 1) := by decide +kernel
theorem dX8_wind_118 : decode cX8_wind 118 = .ok (.getfield 7, 3) := by decide +kernel
theorem dX8_wind_121 : decode cX8_wind 121 = .ok (.iconst 4, 1) := by decide +kernel
theorem dX8_wind_122 : decode cX8_wind 122 = .ok (.iaload, 1) := by decide +kernel
theorem dX8_wind_123 : decode cX8_wind 123 = .ok (.iand, 1) := by decide +kernel
theorem dX8_wind_124 : decode cX8_wind 124 = .ok (.ifCond .ne 122, 3) := by decide +kernel
theorem dX8_wind_127 : decode cX8_wind 127 = .ok (.lconst 1, 1) := by decide +kernel
theorem dX8_wind_128 : decode cX8_wind 128 = .ok (.lstore 10, 2) := by decide +kernel
theorem dX8_wind_130 : decode cX8_wind 130 = .ok (.iconst 0, 1) := by decide +kernel
theorem dX8_wind_131 : decode cX8_wind 131 = .ok (.istore 12, 2) := by decide +kernel
theorem dX8_wind_133 : decode cX8_wind 133 = .ok (.iload 12, 2) := by decide +kernel
theorem dX8_wind_135 : decode cX8_wind 135 = .ok (.aload_n 0, 1) := by decide +kernel
theorem dX8_wind_136 : decode cX8_wind 136 = .ok (.getfield 7, 3) := by decide +kernel
theorem dX8_wind_139 : decode cX8_wind 139 = .ok (.iconst 0, 1) := by decide +kernel
theorem dX8_wind_140 : decode cX8_wind 140 = .ok (.iaload, 1) := by decide +kernel
theorem dX8_wind_141 : decode cX8_wind 141 = .ok (.if_icmp .ge 52, 3) := by decide +kernel
theorem dX8_wind_144 : decode cX8_wind 144 = .ok (.lload 10, 2) := by decide +kernel
theorem dX8_wind_146 : decode cX8_wind 146 = .ok (.aload_n 0, 1) := by decide +kernel
theorem dX8_wind_147 : decode cX8_wind 147 = .ok (.getfield 7, 3) := by decide +kernel
theorem dX8_wind_150 : decode cX8_wind 150 = .ok (.iconst 4, 1) := by decide +kernel
theorem dX8_wind_151 : decode cX8_wind 151 = .ok (.iaload, 1) := by decide +kernel
theorem dX8_wind_152 : decode cX8_wind 152 = .ok (.iload 12, 2) := by decide +kernel
theorem dX8_wind_154 : decode cX8_wind 154 = .ok (.invokestatic 120, 3) := by decide +kernel
theorem dX8_wind_157 : decode cX8_wind 157 = .ok (.ifCond .eq 7, 3) := by decide +kernel
theorem dX8_wind_160 : decode cX8_wind 160 = .ok (.lconst 1, 1) := by decide +kernel
theorem dX8_wind_161 : decode cX8_wind 161 = .ok (.goto 23, 3) := by decide +kernel
theorem dX8_wind_164 : decode cX8_wind 164 = .ok (.iload 9, 2) := by decide +kernel
theorem dX8_wind_166 : decode cX8_wind 166 = .ok (.iload 12, 2) := by decide +kernel
theorem dX8_wind_168 : decode cX8_wind 168 = .ok (.invokestatic 120, 3) := by decide +kernel
theorem dX8_wind_171 : decode cX8_wind 171 = .ok (.ifCond .eq 8, 3) := by decide +kernel
theorem dX8_wind_174 : decode cX8_wind 174 = .ok (.iload_n 3, 1) := by decide +kernel
theorem dX8_wind_175 : decode cX8_wind 175 = .ok (.i2l, 1) := by decide +kernel
theorem dX8_wind_176 : decode cX8_wind 176 = .ok (.goto 8, 3) := by decide +kernel
theorem dX8_wind_179 : decode cX8_wind 179 = .ok (.bipush 10, 2) := by decide +kernel
theorem dX8_wind_181 : decode cX8_wind 181 = .ok (.iload_n 3, 1) := by decide +kernel
theorem dX8_wind_182 : decode cX8_wind 182 = .ok (.isub, 1) := by decide +kernel
theorem dX8_wind_183 : decode cX8_wind 183 = .ok (.i2l, 1) := by decide +kernel
theorem dX8_wind_184 : decode cX8_wind 184 = .ok (.lmul, 1) := by decide +kernel
theorem dX8_wind_185 : decode cX8_wind 185 = .ok (.lstore 10, 2) := by decide +kernel
theorem dX8_wind_187 : decode cX8_wind 187 = .ok (.iinc 12 1, 3) := by decide +kernel
theorem dX8_wind_190 : decode cX8_wind 190 = .ok (.goto (-57), 3) := by decide +kernel
theorem dX8_wind_193 : decode cX8_wind 193 = .ok (.lload 10, 2) := by decide +kernel
theorem dX8_wind_195 : decode cX8_wind 195 = .ok (.lconst 0, 1) := by decide +kernel
theorem dX8_wind_196 : decode cX8_wind 196 = .ok (.lcmp, 1) := by decide +kernel
theorem dX8_wind_197 : decode cX8_wind 197 = .ok (.ifCond .le 49, 3) := by decide +kernel
theorem dX8_wind_200 : decode cX8_wind 200 = .ok (.aload_n 0, 1) := by decide +kernel
theorem dX8_wind_201 : decode cX8_wind 201 = .ok (.invokevirtual 162, 3) := by decide +kernel
theorem dX8_wind_204 : decode cX8_wind 204 = .ok (.aload_n 0, 1) := by decide +kernel
theorem dX8_wind_205 : decode cX8_wind 205 = .ok (.getfield 7, 3) := by decide +kernel
theorem dX8_wind_208 : decode cX8_wind 208 = .ok (.bipush 59, 2) := by decide +kernel
theorem dX8_wind_210 : decode cX8_wind 210 = .ok (.dup2, 1) := by decide +kernel
theorem dX8_wind_211 : decode cX8_wind 211 = .ok (.iaload, 1) := by decide +kernel
theorem dX8_wind_212 : decode cX8_wind 212 = .ok (.iload 9, 2) := by decide +kernel
theorem dX8_wind_214 : decode cX8_wind 214 = .ok (.ior, 1) := by decide +kernel
theorem dX8_wind_215 : decode cX8_wind 215 = .ok (.iastore, 1) := by decide +kernel
theorem dX8_wind_216 : decode cX8_wind 216 = .ok (.aload_n 0, 1) := by decide +kernel
theorem dX8_wind_217 : decode cX8_wind 217 = .ok (.iload_n 2, 1) := by decide +kernel
theorem dX8_wind_218 : decode cX8_wind 218 = .ok (.invokevirtual 165, 3) := by decide +kernel
theorem dX8_wind_221 : decode cX8_wind 221 = .ok (.lload 5, 2) := by decide +kernel
theorem dX8_wind_223 : decode cX8_wind 223 = .ok (.aload_n 0, 1) := by decide +kernel
theorem dX8_wind_224 : decode cX8_wind 224 = .ok (.getfield 7, 3) := by decide +kernel
theorem dX8_wind_227 : decode cX8_wind 227 = .ok (.bipush 59, 2) := by decide +kernel
theorem dX8_wind_229 : decode cX8_wind 229 = .ok (.iaload, 1) := by decide +kernel
theorem dX8_wind_230 : decode cX8_wind 230 = .ok (.iload_n 1, 1) := by decide +kernel
theorem dX8_wind_231 : decode cX8_wind 231 = .ok (.invokestatic 120, 3) := by decide +kernel
theorem dX8_wind_234 : decode cX8_wind 234 = .ok (.ifCond .eq 8, 3) := by decide +kernel
theorem dX8_wind_237 : decode cX8_wind 237 = .ok (.lload 10, 2) := by decide +kernel
theorem dX8_wind_239 : decode cX8_wind 239 = .ok (.goto 4, 3) := by decide +kernel
theorem dX8_wind_242 : decode cX8_wind 242 = .ok (.lconst 0, 1) := by decide +kernel
theorem dX8_wind_243 : decode cX8_wind 243 = .ok (.ladd, 1) := by decide +kernel
theorem dX8_wind_244 : decode cX8_wind 244 = .ok (.lstore 5, 2) := by decide +kernel
theorem dX8_wind_246 : decode cX8_wind 246 = .ok (.iinc 9 1, 3) := by decide +kernel
theorem dX8_wind_249 : decode cX8_wind 249 = .ok (.goto (-147), 3) := by decide +kernel
theorem dX8_wind_252 : decode cX8_wind 252 = .ok (.lload 5, 2) := by decide +kernel
theorem dX8_wind_254 : decode cX8_wind 254 = .ok (.lstore 9, 2) := by decide +kernel
theorem dX8_wind_256 : decode cX8_wind 256 = .ok (.lload 7, 2) := by decide +kernel
theorem dX8_wind_258 : decode cX8_wind 258 = .ok (.lstore 11, 2) := by decide +kernel
theorem dX8_wind_260 : decode cX8_wind 260 = .ok (.lload 11, 2) := by decide +kernel
theorem dX8_wind_262 : decode cX8_wind 262 = .ok (.lconst 0, 1) := by decide +kernel
theorem dX8_wind_263 : decode cX8_wind 263 = .ok (.lcmp, 1) := by decide +kernel
theorem dX8_wind_264 : decode cX8_wind 264 = .ok (.ifCond .eq 21, 3) := by decide +kernel
theorem dX8_wind_267 : decode cX8_wind 267 = .ok (.lload 9, 2) := by decide +kernel
theorem dX8_wind_269 : decode cX8_wind 269 = .ok (.lload 11, 2) := by decide +kernel
theorem dX8_wind_271 : decode cX8_wind 271 = .ok (.lrem, 1) := by decide +kernel
theorem dX8_wind_272 : decode cX8_wind 272 = .ok (.lstore 13, 2) := by decide +kernel
theorem dX8_wind_274 : decode cX8_wind 274 = .ok (.lload 11, 2) := by decide +kernel
theorem dX8_wind_276 : decode cX8_wind 276 = .ok (.lstore 9, 2) := by decide +kernel
theorem dX8_wind_278 : decode cX8_wind 278 = .ok (.lload 13, 2) := by decide +kernel
theorem dX8_wind_280 : decode cX8_wind 280 = .ok (.lstore 11, 2) := by decide +kernel
theorem dX8_wind_282 : decode cX8_wind 282 = .ok (.goto (-22), 3) := by decide +kernel
theorem dX8_wind_285 : decode cX8_wind 285 = .ok (.iload 4, 2) := by decide +kernel
theorem dX8_wind_287 : decode cX8_wind 287 = .ok (.ifCond .ne 11, 3) := by decide +kernel
theorem dX8_wind_290 : decode cX8_wind 290 = .ok (.lload 5, 2) := by decide +kernel
theorem dX8_wind_292 : decode cX8_wind 292 = .ok (.lload 9, 2) := by decide +kernel
theorem dX8_wind_294 : decode cX8_wind 294 = .ok (.ldiv, 1) := by decide +kernel
theorem dX8_wind_295 : decode cX8_wind 295 = .ok (.goto 8, 3) := by decide +kernel
theorem dX8_wind_298 : decode cX8_wind 298 = .ok (.lload 7, 2) := by decide +kernel
theorem dX8_wind_300 : decode cX8_wind 300 = .ok (.lload 9, 2) := by decide +kernel
theorem dX8_wind_302 : decode cX8_wind 302 = .ok (.ldiv, 1) := by decide +kernel
theorem dX8_wind_303 : decode cX8_wind 303 = .ok (.lreturn, 1) := by decide +kernel
set_option maxRecDepth 20000 in
theorem ggX8_drawn_X8_isStreet : GoodIn wsX8_drawn wsX8_isStreet := goodIn_r _ [14, 7, 59, 60, 61, 62, 63, 64, 65, 66, 67, 68, 69, 70, 71, 72, 73] (by decide +kernel) (by decide +kernel)
set_option maxRecDepth 20000 in
theorem gX8_drawn_X8_isStreet : GoodIn wsX8_drawn (wsV RX8 137 RX8 yX8_isStreet wsX8_isStreet) := goodIn_app (goodIn_of _ (by decide +kernel)) ggX8_drawn_X8_isStreet
set_option maxRecDepth 20000 in
theorem ggX8_drawn_X8_in : GoodIn wsX8_drawn wsX8_in := goodIn_r _ [17] (by decide +kernel) (by decide +kernel)
set_option maxRecDepth 20000 in
theorem gX8_drawn_X8_in : GoodIn wsX8_drawn (va_wsS RX8 31 yX8_in wsX8_in) := goodIn_app (goodIn_of _ (by decide +kernel)) ggX8_drawn_X8_in
set_option maxRecDepth 20000 in
theorem ggX8_drawn_X8_tries : GoodIn wsX8_drawn wsX8_tries := goodIn_r _ [21, 22, 23, 24, 13, 25, 7, 59, 60, 61, 62, 63, 64, 65, 66, 67, 68, 69, 70, 71, 72, 73] (by decide +kernel) (by decide +kernel)
set_option maxRecDepth 20000 in
theorem gX8_drawn_X8_tries : GoodIn wsX8_drawn (wsV RX8 162 RX8 yX8_tries wsX8_tries) := goodIn_app (goodIn_of _ (by decide +kernel)) ggX8_drawn_X8_tries
set_option maxRecDepth 20000 in
theorem ggX8_drawn_X8_passes : GoodIn wsX8_drawn wsX8_passes := goodIn_r _ [29, 7, 30, 31, 13, 32, 33, 34, 35, 36, 37, 38, 39, 40, 41, 42, 43, 44, 45, 46, 47, 48, 49, 50, 51, 52, 53, 54, 55, 59, 60, 61, 62, 63, 64, 65, 66, 67, 68, 69, 70, 71, 72, 73] (by decide +kernel) (by decide +kernel)
set_option maxRecDepth 20000 in
theorem gX8_drawn_X8_passes : GoodIn wsX8_drawn (wsV RX8 146 RX8 yX8_passes wsX8_passes) := goodIn_app (goodIn_of _ (by decide +kernel)) ggX8_drawn_X8_passes
set_option maxRecDepth 20000 in
theorem ggX8_drawn_X8_ones : GoodIn wsX8_drawn wsX8_ones := goodIn_r _ [58] (by decide +kernel) (by decide +kernel)
set_option maxRecDepth 20000 in
theorem gX8_drawn_X8_ones : GoodIn wsX8_drawn (va_wsS RX8 170 yX8_ones wsX8_ones) := goodIn_app (goodIn_of _ (by decide +kernel)) ggX8_drawn_X8_ones
theorem dX8_drawn_0 : decode cX8_drawn 0 = .ok (.aload_n 0, 1) := by decide +kernel
theorem dX8_drawn_1 : decode cX8_drawn 1 = .ok (.invokevirtual 137, 3) := by decide +kernel
theorem dX8_drawn_4 : decode cX8_drawn 4 = .ok (.ifCond .ne 6, 3) := by decide +kernel
theorem dX8_drawn_7 : decode cX8_drawn 7 = .ok (.ldc 140, 2) := by decide +kernel
theorem dX8_drawn_9 : decode cX8_drawn 9 = .ok (.ireturn, 1) := by decide +kernel
theorem dX8_drawn_10 : decode cX8_drawn 10 = .ok (.iload_n 1, 1) := by decide +kernel
theorem dX8_drawn_11 : decode cX8_drawn 11 = .ok (.i2l, 1) := by decide +kernel
theorem dX8_drawn_12 : decode cX8_drawn 12 = .ok (.lconst 0, 1) := by decide +kernel
theorem dX8_drawn_13 : decode cX8_drawn 13 = .ok (.ldc2_w 160, 3) := by decide +kernel
theorem dX8_drawn_16 : decode cX8_drawn 16 = .ok (.invokestatic 31, 3) := by decide +kernel
theorem dX8_drawn_19 : decode cX8_drawn 19 = .ok (.ifCond .eq 25, 3) := by decide +kernel
theorem dX8_drawn_22 : decode cX8_drawn 22 = .ok (.iload_n 2, 1) := by decide +kernel
theorem dX8_drawn_23 : decode cX8_drawn 23 = .ok (.i2l, 1) := by decide +kernel
theorem dX8_drawn_24 : decode cX8_drawn 24 = .ok (.lconst 1, 1) := by decide +kernel
theorem dX8_drawn_25 : decode cX8_drawn 25 = .ok (.ldc2_w 186, 3) := by decide +kernel
theorem dX8_drawn_28 : decode cX8_drawn 28 = .ok (.invokestatic 31, 3) := by decide +kernel
theorem dX8_drawn_31 : decode cX8_drawn 31 = .ok (.ifCond .eq 13, 3) := by decide +kernel
theorem dX8_drawn_34 : decode cX8_drawn 34 = .ok (.iload_n 3, 1) := by decide +kernel
theorem dX8_drawn_35 : decode cX8_drawn 35 = .ok (.i2l, 1) := by decide +kernel
theorem dX8_drawn_36 : decode cX8_drawn 36 = .ok (.lconst 0, 1) := by decide +kernel
theorem dX8_drawn_37 : decode cX8_drawn 37 = .ok (.lconst 1, 1) := by decide +kernel
theorem dX8_drawn_38 : decode cX8_drawn 38 = .ok (.invokestatic 31, 3) := by decide +kernel
theorem dX8_drawn_41 : decode cX8_drawn 41 = .ok (.ifCond .ne 6, 3) := by decide +kernel
theorem dX8_drawn_44 : decode cX8_drawn 44 = .ok (.ldc 48, 2) := by decide +kernel
theorem dX8_drawn_46 : decode cX8_drawn 46 = .ok (.ireturn, 1) := by decide +kernel
theorem dX8_drawn_47 : decode cX8_drawn 47 = .ok (.aload_n 0, 1) := by decide +kernel
theorem dX8_drawn_48 : decode cX8_drawn 48 = .ok (.invokevirtual 162, 3) := by decide +kernel
theorem dX8_drawn_51 : decode cX8_drawn 51 = .ok (.iload_n 2, 1) := by decide +kernel
theorem dX8_drawn_52 : decode cX8_drawn 52 = .ok (.i2l, 1) := by decide +kernel
theorem dX8_drawn_53 : decode cX8_drawn 53 = .ok (.lstore 4, 2) := by decide +kernel
theorem dX8_drawn_55 : decode cX8_drawn 55 = .ok (.iconst 0, 1) := by decide +kernel
theorem dX8_drawn_56 : decode cX8_drawn 56 = .ok (.istore 6, 2) := by decide +kernel
theorem dX8_drawn_58 : decode cX8_drawn 58 = .ok (.iload 6, 2) := by decide +kernel
theorem dX8_drawn_60 : decode cX8_drawn 60 = .ok (.iload_n 1, 1) := by decide +kernel
theorem dX8_drawn_61 : decode cX8_drawn 61 = .ok (.if_icmp .ge 86, 3) := by decide +kernel
theorem dX8_drawn_64 : decode cX8_drawn 64 = .ok (.lload 4, 2) := by decide +kernel
theorem dX8_drawn_66 : decode cX8_drawn 66 = .ok (.ldc2_w 188, 3) := by decide +kernel
theorem dX8_drawn_69 : decode cX8_drawn 69 = .ok (.lmul, 1) := by decide +kernel
theorem dX8_drawn_70 : decode cX8_drawn 70 = .ok (.ldc2_w 190, 3) := by decide +kernel
theorem dX8_drawn_73 : decode cX8_drawn 73 = .ok (.lrem, 1) := by decide +kernel
theorem dX8_drawn_74 : decode cX8_drawn 74 = .ok (.lstore 4, 2) := by decide +kernel
theorem dX8_drawn_76 : decode cX8_drawn 76 = .ok (.lload 4, 2) := by decide +kernel
theorem dX8_drawn_78 : decode cX8_drawn 78 = .ok (.aload_n 0, 1) := by decide +kernel
theorem dX8_drawn_79 : decode cX8_drawn 79 = .ok (.getfield 7, 3) := by decide +kernel
theorem dX8_drawn_82 : decode cX8_drawn 82 = .ok (.iconst 0, 1) := by decide +kernel
theorem dX8_drawn_83 : decode cX8_drawn 83 = .ok (.iaload, 1) := by decide +kernel
theorem dX8_drawn_84 : decode cX8_drawn 84 = .ok (.i2l, 1) := by decide +kernel
theorem dX8_drawn_85 : decode cX8_drawn 85 = .ok (.lrem, 1) := by decide +kernel
theorem dX8_drawn_86 : decode cX8_drawn 86 = .ok (.l2i, 1) := by decide +kernel
theorem dX8_drawn_87 : decode cX8_drawn 87 = .ok (.istore 7, 2) := by decide +kernel
theorem dX8_drawn_89 : decode cX8_drawn 89 = .ok (.lload 4, 2) := by decide +kernel
theorem dX8_drawn_91 : decode cX8_drawn 91 = .ok (.ldc2_w 158, 3) := by decide +kernel
theorem dX8_drawn_94 : decode cX8_drawn 94 = .ok (.lrem, 1) := by decide +kernel
theorem dX8_drawn_95 : decode cX8_drawn 95 = .ok (.lconst 0, 1) := by decide +kernel
theorem dX8_drawn_96 : decode cX8_drawn 96 = .ok (.lcmp, 1) := by decide +kernel
theorem dX8_drawn_97 : decode cX8_drawn 97 = .ok (.ifCond .ne 20, 3) := by decide +kernel
theorem dX8_drawn_100 : decode cX8_drawn 100 = .ok (.aload_n 0, 1) := by decide +kernel
theorem dX8_drawn_101 : decode cX8_drawn 101 = .ok (.getfield 7, 3) := by decide +kernel
theorem dX8_drawn_104 : decode cX8_drawn 104 = .ok (.bipush 59, 2) := by decide +kernel
theorem dX8_drawn_106 : decode cX8_drawn 106 = .ok (.dup2, 1) := by decide +kernel
theorem dX8_drawn_107 : decode cX8_drawn 107 = .ok (.iaload, 1) := by decide +kernel
theorem dX8_drawn_108 : decode cX8_drawn 108 = .ok (.iconst 1, 1) := by decide +kernel
theorem dX8_drawn_109 : decode cX8_drawn 109 = .ok (.iload 7, 2) := by decide +kernel
theorem dX8_drawn_111 : decode cX8_drawn 111 = .ok (.ishl, 1) := by decide +kernel
theorem dX8_drawn_112 : decode cX8_drawn 112 = .ok (.ixor, 1) := by decide +kernel
theorem dX8_drawn_113 : decode cX8_drawn 113 = .ok (.iastore, 1) := by decide +kernel
theorem dX8_drawn_114 : decode cX8_drawn 114 = .ok (.goto 20, 3) := by decide +kernel
theorem dX8_drawn_117 : decode cX8_drawn 117 = .ok (.aload_n 0, 1) := by decide +kernel
theorem dX8_drawn_118 : decode cX8_drawn 118 = .ok (.getfield 7, 3) := by decide +kernel
theorem dX8_drawn_121 : decode cX8_drawn 121 = .ok (.bipush 90, 2) := by decide +kernel
theorem dX8_drawn_123 : decode cX8_drawn 123 = .ok (.iload 7, 2) := by decide +kernel
theorem dX8_drawn_125 : decode cX8_drawn 125 = .ok (.iadd, 1) := by decide +kernel
theorem dX8_drawn_126 : decode cX8_drawn 126 = .ok (.lload 4, 2) := by decide +kernel
theorem dX8_drawn_128 : decode cX8_drawn 128 = .ok (.ldc2_w 182, 3) := by decide +kernel
theorem dX8_drawn_131 : decode cX8_drawn 131 = .ok (.lrem, 1) := by decide +kernel
theorem dX8_drawn_132 : decode cX8_drawn 132 = .ok (.l2i, 1) := by decide +kernel
theorem dX8_drawn_133 : decode cX8_drawn 133 = .ok (.iastore, 1) := by decide +kernel
theorem dX8_drawn_134 : decode cX8_drawn 134 = .ok (.aload_n 0, 1) := by decide +kernel
theorem dX8_drawn_135 : decode cX8_drawn 135 = .ok (.bipush 55, 2) := by decide +kernel
theorem dX8_drawn_137 : decode cX8_drawn 137 = .ok (.invokevirtual 146, 3) := by decide +kernel
theorem dX8_drawn_140 : decode cX8_drawn 140 = .ok (.pop, 1) := by decide +kernel
theorem dX8_drawn_141 : decode cX8_drawn 141 = .ok (.iinc 6 1, 3) := by decide +kernel
theorem dX8_drawn_144 : decode cX8_drawn 144 = .ok (.goto (-86), 3) := by decide +kernel
theorem dX8_drawn_147 : decode cX8_drawn 147 = .ok (.iconst 0, 1) := by decide +kernel
theorem dX8_drawn_148 : decode cX8_drawn 148 = .ok (.istore 6, 2) := by decide +kernel
theorem dX8_drawn_150 : decode cX8_drawn 150 = .ok (.iconst 0, 1) := by decide +kernel
theorem dX8_drawn_151 : decode cX8_drawn 151 = .ok (.istore 7, 2) := by decide +kernel
theorem dX8_drawn_153 : decode cX8_drawn 153 = .ok (.iload 7, 2) := by decide +kernel
theorem dX8_drawn_155 : decode cX8_drawn 155 = .ok (.aload_n 0, 1) := by decide +kernel
theorem dX8_drawn_156 : decode cX8_drawn 156 = .ok (.getfield 7, 3) := by decide +kernel
theorem dX8_drawn_159 : decode cX8_drawn 159 = .ok (.iconst 0, 1) := by decide +kernel
theorem dX8_drawn_160 : decode cX8_drawn 160 = .ok (.iaload, 1) := by decide +kernel
theorem dX8_drawn_161 : decode cX8_drawn 161 = .ok (.if_icmp .ge 24, 3) := by decide +kernel
theorem dX8_drawn_164 : decode cX8_drawn 164 = .ok (.iload 6, 2) := by decide +kernel
theorem dX8_drawn_166 : decode cX8_drawn 166 = .ok (.aload_n 0, 1) := by decide +kernel
theorem dX8_drawn_167 : decode cX8_drawn 167 = .ok (.getfield 7, 3) := by decide +kernel
theorem dX8_drawn_170 : decode cX8_drawn 170 = .ok (.bipush 100, 2) := by decide +kernel
theorem dX8_drawn_172 : decode cX8_drawn 172 = .ok (.iload 7, 2) := by decide +kernel
theorem dX8_drawn_174 : decode cX8_drawn 174 = .ok (.iadd, 1) := by decide +kernel
theorem dX8_drawn_175 : decode cX8_drawn 175 = .ok (.iaload, 1) := by decide +kernel
theorem dX8_drawn_176 : decode cX8_drawn 176 = .ok (.ior, 1) := by decide +kernel
theorem dX8_drawn_177 : decode cX8_drawn 177 = .ok (.istore 6, 2) := by decide +kernel
theorem dX8_drawn_179 : decode cX8_drawn 179 = .ok (.iinc 7 1, 3) := by decide +kernel
theorem dX8_drawn_182 : decode cX8_drawn 182 = .ok (.goto (-29), 3) := by decide +kernel
theorem dX8_drawn_185 : decode cX8_drawn 185 = .ok (.iload_n 3, 1) := by decide +kernel
theorem dX8_drawn_186 : decode cX8_drawn 186 = .ok (.ifCond .ne 16, 3) := by decide +kernel
theorem dX8_drawn_189 : decode cX8_drawn 189 = .ok (.aload_n 0, 1) := by decide +kernel
theorem dX8_drawn_190 : decode cX8_drawn 190 = .ok (.getfield 7, 3) := by decide +kernel
theorem dX8_drawn_193 : decode cX8_drawn 193 = .ok (.bipush 59, 2) := by decide +kernel
theorem dX8_drawn_195 : decode cX8_drawn 195 = .ok (.iaload, 1) := by decide +kernel
theorem dX8_drawn_196 : decode cX8_drawn 196 = .ok (.invokestatic 170, 3) := by decide +kernel
theorem dX8_drawn_199 : decode cX8_drawn 199 = .ok (.goto 8, 3) := by decide +kernel
theorem dX8_drawn_202 : decode cX8_drawn 202 = .ok (.iload 6, 2) := by decide +kernel
theorem dX8_drawn_204 : decode cX8_drawn 204 = .ok (.invokestatic 170, 3) := by decide +kernel
theorem dX8_drawn_207 : decode cX8_drawn 207 = .ok (.ireturn, 1) := by decide +kernel
set_option maxRecDepth 20000 in
theorem ggX8_image_X8_in : GoodIn wsX8_image wsX8_in := goodIn_r _ [6] (by decide +kernel) (by decide +kernel)
set_option maxRecDepth 20000 in
theorem gX8_image_X8_in : GoodIn wsX8_image (va_wsS RX8 31 yX8_in wsX8_in) := goodIn_app (goodIn_of _ (by decide +kernel)) ggX8_image_X8_in
set_option maxRecDepth 20000 in
theorem ggX8_image_X8_isStreet : GoodIn wsX8_image wsX8_isStreet := goodIn_r _ [10, 11, 16, 17, 18, 19, 20, 21, 22, 23, 24, 25, 26, 27, 28, 29, 30] (by decide +kernel) (by decide +kernel)
set_option maxRecDepth 20000 in
theorem gX8_image_X8_isStreet : GoodIn wsX8_image (wsV RX8 137 RX8 yX8_isStreet wsX8_isStreet) := goodIn_app (goodIn_of _ (by decide +kernel)) ggX8_image_X8_isStreet
set_option maxRecDepth 20000 in
theorem ggX8_image_X8_copyOf : GoodIn wsX8_image wsX8_copyOf := goodIn_r _ [15, 11, 16, 17, 18, 19, 20, 21, 22, 23, 24, 25, 26, 27, 28, 29, 30] (by decide +kernel) (by decide +kernel)
set_option maxRecDepth 20000 in
theorem gX8_image_X8_copyOf : GoodIn wsX8_image (wsV RX8 107 RX8 yX8_copyOf wsX8_copyOf) := goodIn_app (goodIn_of _ (by decide +kernel)) ggX8_image_X8_copyOf
theorem dX8_image_0 : decode cX8_image 0 = .ok (.iload_n 1, 1) := by decide +kernel
theorem dX8_image_1 : decode cX8_image 1 = .ok (.i2l, 1) := by decide +kernel
theorem dX8_image_2 : decode cX8_image 2 = .ok (.lconst 0, 1) := by decide +kernel
theorem dX8_image_3 : decode cX8_image 3 = .ok (.lconst 1, 1) := by decide +kernel
theorem dX8_image_4 : decode cX8_image 4 = .ok (.invokestatic 31, 3) := by decide +kernel
theorem dX8_image_7 : decode cX8_image 7 = .ok (.ifCond .ne 6, 3) := by decide +kernel
theorem dX8_image_10 : decode cX8_image 10 = .ok (.ldc 48, 2) := by decide +kernel
theorem dX8_image_12 : decode cX8_image 12 = .ok (.ireturn, 1) := by decide +kernel
theorem dX8_image_13 : decode cX8_image 13 = .ok (.aload_n 0, 1) := by decide +kernel
theorem dX8_image_14 : decode cX8_image 14 = .ok (.invokevirtual 137, 3) := by decide +kernel
theorem dX8_image_17 : decode cX8_image 17 = .ok (.ifCond .ne 6, 3) := by decide +kernel
theorem dX8_image_20 : decode cX8_image 20 = .ok (.ldc 140, 2) := by decide +kernel
theorem dX8_image_22 : decode cX8_image 22 = .ok (.ireturn, 1) := by decide +kernel
theorem dX8_image_23 : decode cX8_image 23 = .ok (.aload_n 0, 1) := by decide +kernel
theorem dX8_image_24 : decode cX8_image 24 = .ok (.iconst 0, 1) := by decide +kernel
theorem dX8_image_25 : decode cX8_image 25 = .ok (.bipush 110, 2) := by decide +kernel
theorem dX8_image_27 : decode cX8_image 27 = .ok (.bipush 55, 2) := by decide +kernel
theorem dX8_image_29 : decode cX8_image 29 = .ok (.iload_n 1, 1) := by decide +kernel
theorem dX8_image_30 : decode cX8_image 30 = .ok (.imul, 1) := by decide +kernel
theorem dX8_image_31 : decode cX8_image 31 = .ok (.iadd, 1) := by decide +kernel
theorem dX8_image_32 : decode cX8_image 32 = .ok (.invokevirtual 107, 3) := by decide +kernel
theorem dX8_image_35 : decode cX8_image 35 = .ok (.iconst 1, 1) := by decide +kernel
theorem dX8_image_36 : decode cX8_image 36 = .ok (.ireturn, 1) := by decide +kernel
set_option maxRecDepth 20000 in
theorem ggX8_restore_X8_in : GoodIn wsX8_restore wsX8_in := goodIn_r _ [8] (by decide +kernel) (by decide +kernel)
set_option maxRecDepth 20000 in
theorem gX8_restore_X8_in : GoodIn wsX8_restore (va_wsS RX8 31 yX8_in wsX8_in) := goodIn_app (goodIn_of _ (by decide +kernel)) ggX8_restore_X8_in
set_option maxRecDepth 20000 in
theorem ggX8_restore_X8_copyOf : GoodIn wsX8_restore wsX8_copyOf := goodIn_r _ [12, 2, 13, 14, 15, 16, 17, 18, 19, 20, 21, 22, 23, 24, 25, 26, 27] (by decide +kernel) (by decide +kernel)
set_option maxRecDepth 20000 in
theorem gX8_restore_X8_copyOf : GoodIn wsX8_restore (wsV RX8 107 RX8 yX8_copyOf wsX8_copyOf) := goodIn_app (goodIn_of _ (by decide +kernel)) ggX8_restore_X8_copyOf
theorem dX8_restore_0 : decode cX8_restore 0 = .ok (.iload_n 1, 1) := by decide +kernel
theorem dX8_restore_1 : decode cX8_restore 1 = .ok (.i2l, 1) := by decide +kernel
theorem dX8_restore_2 : decode cX8_restore 2 = .ok (.lconst 0, 1) := by decide +kernel
theorem dX8_restore_3 : decode cX8_restore 3 = .ok (.lconst 1, 1) := by decide +kernel
theorem dX8_restore_4 : decode cX8_restore 4 = .ok (.invokestatic 31, 3) := by decide +kernel
theorem dX8_restore_7 : decode cX8_restore 7 = .ok (.ifCond .ne 6, 3) := by decide +kernel
theorem dX8_restore_10 : decode cX8_restore 10 = .ok (.ldc 48, 2) := by decide +kernel
theorem dX8_restore_12 : decode cX8_restore 12 = .ok (.ireturn, 1) := by decide +kernel
theorem dX8_restore_13 : decode cX8_restore 13 = .ok (.aload_n 0, 1) := by decide +kernel
theorem dX8_restore_14 : decode cX8_restore 14 = .ok (.getfield 7, 3) := by decide +kernel
theorem dX8_restore_17 : decode cX8_restore 17 = .ok (.bipush 110, 2) := by decide +kernel
theorem dX8_restore_19 : decode cX8_restore 19 = .ok (.bipush 55, 2) := by decide +kernel
theorem dX8_restore_21 : decode cX8_restore 21 = .ok (.iload_n 1, 1) := by decide +kernel
theorem dX8_restore_22 : decode cX8_restore 22 = .ok (.imul, 1) := by decide +kernel
theorem dX8_restore_23 : decode cX8_restore 23 = .ok (.iadd, 1) := by decide +kernel
theorem dX8_restore_24 : decode cX8_restore 24 = .ok (.iconst 0, 1) := by decide +kernel
theorem dX8_restore_25 : decode cX8_restore 25 = .ok (.iadd, 1) := by decide +kernel
theorem dX8_restore_26 : decode cX8_restore 26 = .ok (.iaload, 1) := by decide +kernel
theorem dX8_restore_27 : decode cX8_restore 27 = .ok (.ifCond .ne 6, 3) := by decide +kernel
theorem dX8_restore_30 : decode cX8_restore 30 = .ok (.ldc 140, 2) := by decide +kernel
theorem dX8_restore_32 : decode cX8_restore 32 = .ok (.ireturn, 1) := by decide +kernel
theorem dX8_restore_33 : decode cX8_restore 33 = .ok (.aload_n 0, 1) := by decide +kernel
theorem dX8_restore_34 : decode cX8_restore 34 = .ok (.bipush 110, 2) := by decide +kernel
theorem dX8_restore_36 : decode cX8_restore 36 = .ok (.bipush 55, 2) := by decide +kernel
theorem dX8_restore_38 : decode cX8_restore 38 = .ok (.iload_n 1, 1) := by decide +kernel
theorem dX8_restore_39 : decode cX8_restore 39 = .ok (.imul, 1) := by decide +kernel
theorem dX8_restore_40 : decode cX8_restore 40 = .ok (.iadd, 1) := by decide +kernel
theorem dX8_restore_41 : decode cX8_restore 41 = .ok (.iconst 0, 1) := by decide +kernel
theorem dX8_restore_42 : decode cX8_restore 42 = .ok (.invokevirtual 107, 3) := by decide +kernel
theorem dX8_restore_45 : decode cX8_restore 45 = .ok (.aload_n 0, 1) := by decide +kernel
theorem dX8_restore_46 : decode cX8_restore 46 = .ok (.iconst 0, 1) := by decide +kernel
theorem dX8_restore_47 : decode cX8_restore 47 = .ok (.putfield 111, 3) := by decide +kernel
theorem dX8_restore_50 : decode cX8_restore 50 = .ok (.iconst 1, 1) := by decide +kernel
theorem dX8_restore_51 : decode cX8_restore 51 = .ok (.ireturn, 1) := by decide +kernel
set_option maxRecDepth 20000 in
theorem ggX8_kind_X8_isWindow : GoodIn wsX8_kind wsX8_isWindow := goodIn_r _ [7, 1, 8, 9, 6, 10, 11, 12, 13, 14, 15, 16, 17, 18, 19, 20, 21, 22, 23, 24, 25] (by decide +kernel) (by decide +kernel)
set_option maxRecDepth 20000 in
theorem gX8_kind_X8_isWindow : GoodIn wsX8_kind (wsV RX8 149 RX8 yX8_isWindow wsX8_isWindow) := goodIn_app (goodIn_of _ (by decide +kernel)) ggX8_kind_X8_isWindow
theorem dX8_kind_0 : decode cX8_kind 0 = .ok (.aload_n 0, 1) := by decide +kernel
theorem dX8_kind_1 : decode cX8_kind 1 = .ok (.iload_n 1, 1) := by decide +kernel
theorem dX8_kind_2 : decode cX8_kind 2 = .ok (.invokevirtual 149, 3) := by decide +kernel
theorem dX8_kind_5 : decode cX8_kind 5 = .ok (.ifCond .eq 14, 3) := by decide +kernel
theorem dX8_kind_8 : decode cX8_kind 8 = .ok (.aload_n 0, 1) := by decide +kernel
theorem dX8_kind_9 : decode cX8_kind 9 = .ok (.getfield 7, 3) := by decide +kernel
theorem dX8_kind_12 : decode cX8_kind 12 = .ok (.iconst 5, 1) := by decide +kernel
theorem dX8_kind_13 : decode cX8_kind 13 = .ok (.iload_n 1, 1) := by decide +kernel
theorem dX8_kind_14 : decode cX8_kind 14 = .ok (.iadd, 1) := by decide +kernel
theorem dX8_kind_15 : decode cX8_kind 15 = .ok (.iaload, 1) := by decide +kernel
theorem dX8_kind_16 : decode cX8_kind 16 = .ok (.goto 5, 3) := by decide +kernel
theorem dX8_kind_19 : decode cX8_kind 19 = .ok (.ldc 48, 2) := by decide +kernel
theorem dX8_kind_21 : decode cX8_kind 21 = .ok (.ireturn, 1) := by decide +kernel
theorem dX8_isA_0 : decode cX8_isA 0 = .ok (.iload_n 1, 1) := by decide +kernel
theorem dX8_isA_1 : decode cX8_isA 1 = .ok (.ifCond .eq 33, 3) := by decide +kernel
theorem dX8_isA_4 : decode cX8_isA 4 = .ok (.iload_n 1, 1) := by decide +kernel
theorem dX8_isA_5 : decode cX8_isA 5 = .ok (.iload_n 0, 1) := by decide +kernel
theorem dX8_isA_6 : decode cX8_isA 6 = .ok (.if_icmp .eq 28, 3) := by decide +kernel
theorem dX8_isA_9 : decode cX8_isA 9 = .ok (.iload_n 1, 1) := by decide +kernel
theorem dX8_isA_10 : decode cX8_isA 10 = .ok (.iconst 1, 1) := by decide +kernel
theorem dX8_isA_11 : decode cX8_isA 11 = .ok (.if_icmp .ne 13, 3) := by decide +kernel
theorem dX8_isA_14 : decode cX8_isA 14 = .ok (.iload_n 0, 1) := by decide +kernel
theorem dX8_isA_15 : decode cX8_isA 15 = .ok (.iconst 2, 1) := by decide +kernel
theorem dX8_isA_16 : decode cX8_isA 16 = .ok (.if_icmp .eq 18, 3) := by decide +kernel
theorem dX8_isA_19 : decode cX8_isA 19 = .ok (.iload_n 0, 1) := by decide +kernel
theorem dX8_isA_20 : decode cX8_isA 20 = .ok (.iconst 3, 1) := by decide +kernel
theorem dX8_isA_21 : decode cX8_isA 21 = .ok (.if_icmp .eq 13, 3) := by decide +kernel
theorem dX8_isA_24 : decode cX8_isA 24 = .ok (.iload_n 1, 1) := by decide +kernel
theorem dX8_isA_25 : decode cX8_isA 25 = .ok (.iconst 4, 1) := by decide +kernel
theorem dX8_isA_26 : decode cX8_isA 26 = .ok (.if_icmp .ne 12, 3) := by decide +kernel
theorem dX8_isA_29 : decode cX8_isA 29 = .ok (.iload_n 0, 1) := by decide +kernel
theorem dX8_isA_30 : decode cX8_isA 30 = .ok (.iconst 5, 1) := by decide +kernel
theorem dX8_isA_31 : decode cX8_isA 31 = .ok (.if_icmp .ne 7, 3) := by decide +kernel
theorem dX8_isA_34 : decode cX8_isA 34 = .ok (.iconst 1, 1) := by decide +kernel
theorem dX8_isA_35 : decode cX8_isA 35 = .ok (.goto 4, 3) := by decide +kernel
theorem dX8_isA_38 : decode cX8_isA 38 = .ok (.iconst 0, 1) := by decide +kernel
theorem dX8_isA_39 : decode cX8_isA 39 = .ok (.ireturn, 1) := by decide +kernel
set_option maxRecDepth 20000 in
theorem ggX8_as_X8_isWindow : GoodIn wsX8_as wsX8_isWindow := goodIn_r _ [9, 3, 10, 11, 8, 12, 21, 22, 23, 24, 25, 26, 27, 28, 29, 30, 31, 32, 33, 34, 35] (by decide +kernel) (by decide +kernel)
set_option maxRecDepth 20000 in
theorem gX8_as_X8_isWindow : GoodIn wsX8_as (wsV RX8 149 RX8 yX8_isWindow wsX8_isWindow) := goodIn_app (goodIn_of _ (by decide +kernel)) ggX8_as_X8_isWindow
set_option maxRecDepth 20000 in
theorem ggX8_as_X8_in : GoodIn wsX8_as wsX8_in := goodIn_r _ [12] (by decide +kernel) (by decide +kernel)
set_option maxRecDepth 20000 in
theorem gX8_as_X8_in : GoodIn wsX8_as (va_wsS RX8 31 yX8_in wsX8_in) := goodIn_app (goodIn_of _ (by decide +kernel)) ggX8_as_X8_in
set_option maxRecDepth 20000 in
theorem ggX8_as_X8_isA : GoodIn wsX8_as wsX8_isA := goodIn_r _ [15] (by decide +kernel) (by decide +kernel)
set_option maxRecDepth 20000 in
theorem gX8_as_X8_isA : GoodIn wsX8_as (va_wsS RX8 194 yX8_isA wsX8_isA) := goodIn_app (goodIn_of _ (by decide +kernel)) ggX8_as_X8_isA
set_option maxRecDepth 20000 in
theorem ggX8_as_X8_finds : GoodIn wsX8_as wsX8_finds := goodIn_r _ [19, 4, 20, 21, 22, 23, 24, 25, 26, 27, 28, 29, 30, 31, 32, 33, 34, 35] (by decide +kernel) (by decide +kernel)
set_option maxRecDepth 20000 in
theorem gX8_as_X8_finds : GoodIn wsX8_as (wsV RX8 49 RX8 yX8_finds wsX8_finds) := goodIn_app (goodIn_of _ (by decide +kernel)) ggX8_as_X8_finds
theorem dX8_as_0 : decode cX8_as 0 = .ok (.aload_n 0, 1) := by decide +kernel
theorem dX8_as_1 : decode cX8_as 1 = .ok (.iload_n 1, 1) := by decide +kernel
theorem dX8_as_2 : decode cX8_as 2 = .ok (.invokevirtual 149, 3) := by decide +kernel
theorem dX8_as_5 : decode cX8_as 5 = .ok (.ifCond .eq 15, 3) := by decide +kernel
theorem dX8_as_8 : decode cX8_as 8 = .ok (.iload_n 2, 1) := by decide +kernel
theorem dX8_as_9 : decode cX8_as 9 = .ok (.i2l, 1) := by decide +kernel
theorem dX8_as_10 : decode cX8_as 10 = .ok (.lconst 0, 1) := by decide +kernel
theorem dX8_as_11 : decode cX8_as 11 = .ok (.ldc2_w 192, 3) := by decide +kernel
theorem dX8_as_14 : decode cX8_as 14 = .ok (.invokestatic 31, 3) := by decide +kernel
theorem dX8_as_17 : decode cX8_as 17 = .ok (.ifCond .ne 6, 3) := by decide +kernel
theorem dX8_as_20 : decode cX8_as 20 = .ok (.ldc 48, 2) := by decide +kernel
theorem dX8_as_22 : decode cX8_as 22 = .ok (.ireturn, 1) := by decide +kernel
theorem dX8_as_23 : decode cX8_as 23 = .ok (.aload_n 0, 1) := by decide +kernel
theorem dX8_as_24 : decode cX8_as 24 = .ok (.getfield 7, 3) := by decide +kernel
theorem dX8_as_27 : decode cX8_as 27 = .ok (.iconst 5, 1) := by decide +kernel
theorem dX8_as_28 : decode cX8_as 28 = .ok (.iload_n 1, 1) := by decide +kernel
theorem dX8_as_29 : decode cX8_as 29 = .ok (.iadd, 1) := by decide +kernel
theorem dX8_as_30 : decode cX8_as 30 = .ok (.iaload, 1) := by decide +kernel
theorem dX8_as_31 : decode cX8_as 31 = .ok (.iload_n 2, 1) := by decide +kernel
theorem dX8_as_32 : decode cX8_as 32 = .ok (.invokestatic 194, 3) := by decide +kernel
theorem dX8_as_35 : decode cX8_as 35 = .ok (.ifCond .ne 9, 3) := by decide +kernel
theorem dX8_as_38 : decode cX8_as 38 = .ok (.aload_n 0, 1) := by decide +kernel
theorem dX8_as_39 : decode cX8_as 39 = .ok (.iconst 3, 1) := by decide +kernel
theorem dX8_as_40 : decode cX8_as 40 = .ok (.invokevirtual 49, 3) := by decide +kernel
theorem dX8_as_43 : decode cX8_as 43 = .ok (.ireturn, 1) := by decide +kernel
theorem dX8_as_44 : decode cX8_as 44 = .ok (.aload_n 0, 1) := by decide +kernel
theorem dX8_as_45 : decode cX8_as 45 = .ok (.iconst 0, 1) := by decide +kernel
theorem dX8_as_46 : decode cX8_as 46 = .ok (.putfield 37, 3) := by decide +kernel
theorem dX8_as_49 : decode cX8_as 49 = .ok (.iload_n 1, 1) := by decide +kernel
theorem dX8_as_50 : decode cX8_as 50 = .ok (.ireturn, 1) := by decide +kernel
theorem dX8_traces_0 : decode cX8_traces 0 = .ok (.aload_n 0, 1) := by decide +kernel
theorem dX8_traces_1 : decode cX8_traces 1 = .ok (.getfield 197, 3) := by decide +kernel
theorem dX8_traces_4 : decode cX8_traces 4 = .ok (.bipush 16, 2) := by decide +kernel
theorem dX8_traces_6 : decode cX8_traces 6 = .ok (.if_icmp .ge 23, 3) := by decide +kernel
theorem dX8_traces_9 : decode cX8_traces 9 = .ok (.aload_n 0, 1) := by decide +kernel
theorem dX8_traces_10 : decode cX8_traces 10 = .ok (.getfield 28, 3) := by decide +kernel
theorem dX8_traces_13 : decode cX8_traces 13 = .ok (.aload_n 0, 1) := by decide +kernel
theorem dX8_traces_14 : decode cX8_traces 14 = .ok (.getfield 197, 3) := by decide +kernel
theorem dX8_traces_17 : decode cX8_traces 17 = .ok (.iload_n 1, 1) := by decide +kernel
theorem dX8_traces_18 : decode cX8_traces 18 = .ok (.iastore, 1) := by decide +kernel
theorem dX8_traces_19 : decode cX8_traces 19 = .ok (.aload_n 0, 1) := by decide +kernel
theorem dX8_traces_20 : decode cX8_traces 20 = .ok (.dup, 1) := by decide +kernel
theorem dX8_traces_21 : decode cX8_traces 21 = .ok (.getfield 197, 3) := by decide +kernel
theorem dX8_traces_24 : decode cX8_traces 24 = .ok (.iconst 1, 1) := by decide +kernel
theorem dX8_traces_25 : decode cX8_traces 25 = .ok (.iadd, 1) := by decide +kernel
theorem dX8_traces_26 : decode cX8_traces 26 = .ok (.putfield 197, 3) := by decide +kernel
theorem dX8_traces_29 : decode cX8_traces 29 = .ok (.return_, 1) := by decide +kernel
set_option maxRecDepth 20000 in
theorem ggX8_size10_X8_traces : GoodIn wsX8_size10 wsX8_traces := goodIn_r _ [6, 7, 8, 9, 10, 11, 12, 13, 14, 15, 16, 17, 18, 19, 20, 21, 22, 23] (by decide +kernel) (by decide +kernel)
set_option maxRecDepth 20000 in
theorem gX8_size10_X8_traces : GoodIn wsX8_size10 (wsV RX8 200 RX8 yX8_traces wsX8_traces) := goodIn_app (goodIn_of _ (by decide +kernel)) ggX8_size10_X8_traces
theorem dX8_size10_0 : decode cX8_size10 0 = .ok (.aload_n 0, 1) := by decide +kernel
theorem dX8_size10_1 : decode cX8_size10 1 = .ok (.bipush 10, 2) := by decide +kernel
theorem dX8_size10_3 : decode cX8_size10 3 = .ok (.invokevirtual 200, 3) := by decide +kernel
theorem dX8_size10_6 : decode cX8_size10 6 = .ok (.aload_n 0, 1) := by decide +kernel
theorem dX8_size10_7 : decode cX8_size10 7 = .ok (.getfield 7, 3) := by decide +kernel
theorem dX8_size10_10 : decode cX8_size10 10 = .ok (.bipush 15, 2) := by decide +kernel
theorem dX8_size10_12 : decode cX8_size10 12 = .ok (.iload_n 1, 1) := by decide +kernel
theorem dX8_size10_13 : decode cX8_size10 13 = .ok (.iadd, 1) := by decide +kernel
theorem dX8_size10_14 : decode cX8_size10 14 = .ok (.iaload, 1) := by decide +kernel
theorem dX8_size10_15 : decode cX8_size10 15 = .ok (.ireturn, 1) := by decide +kernel
set_option maxRecDepth 20000 in
theorem ggX8_size11_X8_traces : GoodIn wsX8_size11 wsX8_traces := goodIn_r _ [5, 6, 7, 25, 26, 27, 28, 29, 30, 31, 32, 33, 34, 35, 36, 37, 38, 39] (by decide +kernel) (by decide +kernel)
set_option maxRecDepth 20000 in
theorem gX8_size11_X8_traces : GoodIn wsX8_size11 (wsV RX8 200 RX8 yX8_traces wsX8_traces) := goodIn_app (goodIn_of _ (by decide +kernel)) ggX8_size11_X8_traces
set_option maxRecDepth 20000 in
theorem ggX8_size11_X8_size10 : GoodIn wsX8_size11 wsX8_size10 := goodIn_r _ [11, 12, 1, 2, 3, 4, 5, 6, 7, 25, 26, 27, 28, 29, 30, 31, 32, 33, 34, 35, 36, 37, 38, 39] (by decide +kernel) (by decide +kernel)
set_option maxRecDepth 20000 in
theorem gX8_size11_X8_size10 : GoodIn wsX8_size11 (wsV RX8 203 RX8 yX8_size10 wsX8_size10) := goodIn_app (goodIn_of _ (by decide +kernel)) ggX8_size11_X8_size10
set_option maxRecDepth 20000 in
theorem ggX8_size11_X8_markOf : GoodIn wsX8_size11 wsX8_markOf := goodIn_r _ [16, 12, 1, 2, 3, 4, 5, 6, 7, 17, 18, 19, 20, 21, 22, 23, 24, 25, 26, 27, 28, 29, 30, 31, 32, 33, 34, 35, 36, 37, 38, 39] (by decide +kernel) (by decide +kernel)
set_option maxRecDepth 20000 in
theorem gX8_size11_X8_markOf : GoodIn wsX8_size11 (wsV RX8 206 RX8 yX8_markOf wsX8_markOf) := goodIn_app (goodIn_of _ (by decide +kernel)) ggX8_size11_X8_markOf
theorem dX8_size11_0 : decode cX8_size11 0 = .ok (.aload_n 0, 1) := by decide +kernel
theorem dX8_size11_1 : decode cX8_size11 1 = .ok (.bipush 11, 2) := by decide +kernel
theorem dX8_size11_3 : decode cX8_size11 3 = .ok (.invokevirtual 200, 3) := by decide +kernel
theorem dX8_size11_6 : decode cX8_size11 6 = .ok (.aload_n 0, 1) := by decide +kernel
theorem dX8_size11_7 : decode cX8_size11 7 = .ok (.iload_n 1, 1) := by decide +kernel
theorem dX8_size11_8 : decode cX8_size11 8 = .ok (.invokevirtual 203, 3) := by decide +kernel
theorem dX8_size11_11 : decode cX8_size11 11 = .ok (.istore_n 2, 1) := by decide +kernel
theorem dX8_size11_12 : decode cX8_size11 12 = .ok (.iload_n 2, 1) := by decide +kernel
theorem dX8_size11_13 : decode cX8_size11 13 = .ok (.aload_n 0, 1) := by decide +kernel
theorem dX8_size11_14 : decode cX8_size11 14 = .ok (.iload_n 1, 1) := by decide +kernel
theorem dX8_size11_15 : decode cX8_size11 15 = .ok (.invokevirtual 206, 3) := by decide +kernel
theorem dX8_size11_18 : decode cX8_size11 18 = .ok (.iadd, 1) := by decide +kernel
theorem dX8_size11_19 : decode cX8_size11 19 = .ok (.ireturn, 1) := by decide +kernel
set_option maxRecDepth 20000 in
theorem ggX8_size13_X8_traces : GoodIn wsX8_size13 wsX8_traces := goodIn_r _ [5, 6, 7, 13, 14, 15, 16, 17, 18, 19, 20, 21, 22, 23, 24, 25, 26, 27] (by decide +kernel) (by decide +kernel)
set_option maxRecDepth 20000 in
theorem gX8_size13_X8_traces : GoodIn wsX8_size13 (wsV RX8 200 RX8 yX8_traces wsX8_traces) := goodIn_app (goodIn_of _ (by decide +kernel)) ggX8_size13_X8_traces
set_option maxRecDepth 20000 in
theorem ggX8_size13_X8_size10 : GoodIn wsX8_size13 wsX8_size10 := goodIn_r _ [11, 12, 1, 2, 3, 4, 5, 6, 7, 13, 14, 15, 16, 17, 18, 19, 20, 21, 22, 23, 24, 25, 26, 27] (by decide +kernel) (by decide +kernel)
set_option maxRecDepth 20000 in
theorem gX8_size13_X8_size10 : GoodIn wsX8_size13 (wsV RX8 203 RX8 yX8_size10 wsX8_size10) := goodIn_app (goodIn_of _ (by decide +kernel)) ggX8_size13_X8_size10
theorem dX8_size13_0 : decode cX8_size13 0 = .ok (.aload_n 0, 1) := by decide +kernel
theorem dX8_size13_1 : decode cX8_size13 1 = .ok (.bipush 13, 2) := by decide +kernel
theorem dX8_size13_3 : decode cX8_size13 3 = .ok (.invokevirtual 200, 3) := by decide +kernel
theorem dX8_size13_6 : decode cX8_size13 6 = .ok (.aload_n 0, 1) := by decide +kernel
theorem dX8_size13_7 : decode cX8_size13 7 = .ok (.iload_n 1, 1) := by decide +kernel
theorem dX8_size13_8 : decode cX8_size13 8 = .ok (.invokevirtual 203, 3) := by decide +kernel
theorem dX8_size13_11 : decode cX8_size13 11 = .ok (.bipush 100, 2) := by decide +kernel
theorem dX8_size13_13 : decode cX8_size13 13 = .ok (.isub, 1) := by decide +kernel
theorem dX8_size13_14 : decode cX8_size13 14 = .ok (.ireturn, 1) := by decide +kernel
set_option maxRecDepth 20000 in
theorem ggX8_sizeOf_X8_traces : GoodIn wsX8_sizeOf wsX8_traces := goodIn_r _ [6, 7, 8, 33, 34, 35, 36, 37, 38, 39, 40, 41, 42, 43, 44, 45, 46, 47] (by decide +kernel) (by decide +kernel)
set_option maxRecDepth 20000 in
theorem gX8_sizeOf_X8_traces : GoodIn wsX8_sizeOf (wsV RX8 200 RX8 yX8_traces wsX8_traces) := goodIn_app (goodIn_of _ (by decide +kernel)) ggX8_sizeOf_X8_traces
set_option maxRecDepth 20000 in
theorem ggX8_sizeOf_X8_size11 : GoodIn wsX8_sizeOf wsX8_size11 := goodIn_r _ [12, 2, 3, 4, 5, 6, 7, 8, 13, 14, 15, 16, 1, 17, 18, 19, 20, 21, 22, 23, 24, 25, 26, 27, 28, 33, 34, 35, 36, 37, 38, 39, 40, 41, 42, 43, 44, 45, 46, 47] (by decide +kernel) (by decide +kernel)
set_option maxRecDepth 20000 in
theorem gX8_sizeOf_X8_size11 : GoodIn wsX8_sizeOf (wsV RX8 209 RX8 yX8_size11 wsX8_size11) := goodIn_app (goodIn_of _ (by decide +kernel)) ggX8_sizeOf_X8_size11
set_option maxRecDepth 20000 in
theorem ggX8_sizeOf_X8_size13 : GoodIn wsX8_sizeOf wsX8_size13 := goodIn_r _ [32, 2, 3, 4, 5, 6, 7, 8, 13, 14, 15, 16, 1, 33, 34, 35, 36, 37, 38, 39, 40, 41, 42, 43, 44, 45, 46, 47] (by decide +kernel) (by decide +kernel)
set_option maxRecDepth 20000 in
theorem gX8_sizeOf_X8_size13 : GoodIn wsX8_sizeOf (wsV RX8 212 RX8 yX8_size13 wsX8_size13) := goodIn_app (goodIn_of _ (by decide +kernel)) ggX8_sizeOf_X8_size13
theorem dX8_sizeOf_0 : decode cX8_sizeOf 0 = .ok (.aload_n 0, 1) := by decide +kernel
theorem dX8_sizeOf_1 : decode cX8_sizeOf 1 = .ok (.getfield 7, 3) := by decide +kernel
theorem dX8_sizeOf_4 : decode cX8_sizeOf 4 = .ok (.iconst 5, 1) := by decide +kernel
theorem dX8_sizeOf_5 : decode cX8_sizeOf 5 = .ok (.iload_n 1, 1) := by decide +kernel
theorem dX8_sizeOf_6 : decode cX8_sizeOf 6 = .ok (.iadd, 1) := by decide +kernel
theorem dX8_sizeOf_7 : decode cX8_sizeOf 7 = .ok (.iaload, 1) := by decide +kernel
theorem dX8_sizeOf_8 : decode cX8_sizeOf 8 = .ok (.tableswitch 65 2 5 #[32, 65, 45, 51], 32) := by decide +kernel
theorem dX8_sizeOf_40 : decode cX8_sizeOf 40 = .ok (.aload_n 0, 1) := by decide +kernel
theorem dX8_sizeOf_41 : decode cX8_sizeOf 41 = .ok (.bipush 12, 2) := by decide +kernel
theorem dX8_sizeOf_43 : decode cX8_sizeOf 43 = .ok (.invokevirtual 200, 3) := by decide +kernel
theorem dX8_sizeOf_46 : decode cX8_sizeOf 46 = .ok (.aload_n 0, 1) := by decide +kernel
theorem dX8_sizeOf_47 : decode cX8_sizeOf 47 = .ok (.iload_n 1, 1) := by decide +kernel
theorem dX8_sizeOf_48 : decode cX8_sizeOf 48 = .ok (.invokevirtual 209, 3) := by decide +kernel
theorem dX8_sizeOf_51 : decode cX8_sizeOf 51 = .ok (.ineg, 1) := by decide +kernel
theorem dX8_sizeOf_52 : decode cX8_sizeOf 52 = .ok (.ireturn, 1) := by decide +kernel
theorem dX8_sizeOf_53 : decode cX8_sizeOf 53 = .ok (.aload_n 0, 1) := by decide +kernel
theorem dX8_sizeOf_54 : decode cX8_sizeOf 54 = .ok (.iload_n 1, 1) := by decide +kernel
theorem dX8_sizeOf_55 : decode cX8_sizeOf 55 = .ok (.invokevirtual 212, 3) := by decide +kernel
theorem dX8_sizeOf_58 : decode cX8_sizeOf 58 = .ok (.ireturn, 1) := by decide +kernel
theorem dX8_sizeOf_59 : decode cX8_sizeOf 59 = .ok (.aload_n 0, 1) := by decide +kernel
theorem dX8_sizeOf_60 : decode cX8_sizeOf 60 = .ok (.bipush 14, 2) := by decide +kernel
theorem dX8_sizeOf_62 : decode cX8_sizeOf 62 = .ok (.invokevirtual 200, 3) := by decide +kernel
theorem dX8_sizeOf_65 : decode cX8_sizeOf 65 = .ok (.iconst 2, 1) := by decide +kernel
theorem dX8_sizeOf_66 : decode cX8_sizeOf 66 = .ok (.aload_n 0, 1) := by decide +kernel
theorem dX8_sizeOf_67 : decode cX8_sizeOf 67 = .ok (.iload_n 1, 1) := by decide +kernel
theorem dX8_sizeOf_68 : decode cX8_sizeOf 68 = .ok (.invokevirtual 212, 3) := by decide +kernel
theorem dX8_sizeOf_71 : decode cX8_sizeOf 71 = .ok (.imul, 1) := by decide +kernel
theorem dX8_sizeOf_72 : decode cX8_sizeOf 72 = .ok (.ireturn, 1) := by decide +kernel
theorem dX8_sizeOf_73 : decode cX8_sizeOf 73 = .ok (.aload_n 0, 1) := by decide +kernel
theorem dX8_sizeOf_74 : decode cX8_sizeOf 74 = .ok (.iload_n 1, 1) := by decide +kernel
theorem dX8_sizeOf_75 : decode cX8_sizeOf 75 = .ok (.invokevirtual 209, 3) := by decide +kernel
theorem dX8_sizeOf_78 : decode cX8_sizeOf 78 = .ok (.ireturn, 1) := by decide +kernel
set_option maxRecDepth 20000 in
theorem ggX8_mark20_X8_traces : GoodIn wsX8_mark20 wsX8_traces := goodIn_r _ [5, 6, 7, 8, 9, 10, 11, 12, 13, 14, 15, 16, 17, 18, 19, 20, 21, 22] (by decide +kernel) (by decide +kernel)
set_option maxRecDepth 20000 in
theorem gX8_mark20_X8_traces : GoodIn wsX8_mark20 (wsV RX8 200 RX8 yX8_traces wsX8_traces) := goodIn_app (goodIn_of _ (by decide +kernel)) ggX8_mark20_X8_traces
theorem dX8_mark20_0 : decode cX8_mark20 0 = .ok (.aload_n 0, 1) := by decide +kernel
theorem dX8_mark20_1 : decode cX8_mark20 1 = .ok (.bipush 20, 2) := by decide +kernel
theorem dX8_mark20_3 : decode cX8_mark20 3 = .ok (.invokevirtual 200, 3) := by decide +kernel
theorem dX8_mark20_6 : decode cX8_mark20 6 = .ok (.iload_n 1, 1) := by decide +kernel
theorem dX8_mark20_7 : decode cX8_mark20 7 = .ok (.ireturn, 1) := by decide +kernel
set_option maxRecDepth 20000 in
theorem ggX8_mark21_X8_traces : GoodIn wsX8_mark21 wsX8_traces := goodIn_r _ [6, 7, 8, 13, 14, 15, 16, 17, 18, 19, 20, 21, 22, 23, 24, 25, 26, 27] (by decide +kernel) (by decide +kernel)
set_option maxRecDepth 20000 in
theorem gX8_mark21_X8_traces : GoodIn wsX8_mark21 (wsV RX8 200 RX8 yX8_traces wsX8_traces) := goodIn_app (goodIn_of _ (by decide +kernel)) ggX8_mark21_X8_traces
set_option maxRecDepth 20000 in
theorem ggX8_mark21_X8_mark20 : GoodIn wsX8_mark21 wsX8_mark20 := goodIn_r _ [12, 2, 3, 4, 5, 6, 7, 8, 13, 14, 15, 16, 17, 18, 19, 20, 21, 22, 23, 24, 25, 26, 27] (by decide +kernel) (by decide +kernel)
set_option maxRecDepth 20000 in
theorem gX8_mark21_X8_mark20 : GoodIn wsX8_mark21 (wsV RX8 215 RX8 yX8_mark20 wsX8_mark20) := goodIn_app (goodIn_of _ (by decide +kernel)) ggX8_mark21_X8_mark20
theorem dX8_mark21_0 : decode cX8_mark21 0 = .ok (.aload_n 0, 1) := by decide +kernel
theorem dX8_mark21_1 : decode cX8_mark21 1 = .ok (.bipush 21, 2) := by decide +kernel
theorem dX8_mark21_3 : decode cX8_mark21 3 = .ok (.invokevirtual 200, 3) := by decide +kernel
theorem dX8_mark21_6 : decode cX8_mark21 6 = .ok (.aload_n 0, 1) := by decide +kernel
theorem dX8_mark21_7 : decode cX8_mark21 7 = .ok (.iload_n 1, 1) := by decide +kernel
theorem dX8_mark21_8 : decode cX8_mark21 8 = .ok (.invokevirtual 215, 3) := by decide +kernel
theorem dX8_mark21_11 : decode cX8_mark21 11 = .ok (.aload_n 0, 1) := by decide +kernel
theorem dX8_mark21_12 : decode cX8_mark21 12 = .ok (.getfield 7, 3) := by decide +kernel
theorem dX8_mark21_15 : decode cX8_mark21 15 = .ok (.bipush 35, 2) := by decide +kernel
theorem dX8_mark21_17 : decode cX8_mark21 17 = .ok (.iload_n 1, 1) := by decide +kernel
theorem dX8_mark21_18 : decode cX8_mark21 18 = .ok (.iadd, 1) := by decide +kernel
theorem dX8_mark21_19 : decode cX8_mark21 19 = .ok (.iaload, 1) := by decide +kernel
theorem dX8_mark21_20 : decode cX8_mark21 20 = .ok (.iadd, 1) := by decide +kernel
theorem dX8_mark21_21 : decode cX8_mark21 21 = .ok (.ireturn, 1) := by decide +kernel
set_option maxRecDepth 20000 in
theorem ggX8_markOf_X8_traces : GoodIn wsX8_markOf wsX8_traces := goodIn_r _ [6, 7, 8, 17, 18, 19, 20, 21, 22, 23, 24, 25, 26, 27, 28, 29, 30, 31] (by decide +kernel) (by decide +kernel)
set_option maxRecDepth 20000 in
theorem gX8_markOf_X8_traces : GoodIn wsX8_markOf (wsV RX8 200 RX8 yX8_traces wsX8_traces) := goodIn_app (goodIn_of _ (by decide +kernel)) ggX8_markOf_X8_traces
set_option maxRecDepth 20000 in
theorem ggX8_markOf_X8_mark21 : GoodIn wsX8_markOf wsX8_mark21 := goodIn_r _ [12, 1, 2, 3, 4, 5, 6, 7, 8, 13, 14, 15, 16, 17, 18, 19, 20, 21, 22, 23, 24, 25, 26, 27, 28, 29, 30, 31] (by decide +kernel) (by decide +kernel)
set_option maxRecDepth 20000 in
theorem gX8_markOf_X8_mark21 : GoodIn wsX8_markOf (wsV RX8 218 RX8 yX8_mark21 wsX8_mark21) := goodIn_app (goodIn_of _ (by decide +kernel)) ggX8_markOf_X8_mark21
theorem dX8_markOf_0 : decode cX8_markOf 0 = .ok (.aload_n 0, 1) := by decide +kernel
theorem dX8_markOf_1 : decode cX8_markOf 1 = .ok (.getfield 7, 3) := by decide +kernel
theorem dX8_markOf_4 : decode cX8_markOf 4 = .ok (.iconst 5, 1) := by decide +kernel
theorem dX8_markOf_5 : decode cX8_markOf 5 = .ok (.iload_n 1, 1) := by decide +kernel
theorem dX8_markOf_6 : decode cX8_markOf 6 = .ok (.iadd, 1) := by decide +kernel
theorem dX8_markOf_7 : decode cX8_markOf 7 = .ok (.iaload, 1) := by decide +kernel
theorem dX8_markOf_8 : decode cX8_markOf 8 = .ok (.lookupswitch 58 #[(2, 28), (3, 42)], 28) := by decide +kernel
theorem dX8_markOf_36 : decode cX8_markOf 36 = .ok (.aload_n 0, 1) := by decide +kernel
theorem dX8_markOf_37 : decode cX8_markOf 37 = .ok (.bipush 24, 2) := by decide +kernel
theorem dX8_markOf_39 : decode cX8_markOf 39 = .ok (.invokevirtual 200, 3) := by decide +kernel
theorem dX8_markOf_42 : decode cX8_markOf 42 = .ok (.iconst 2, 1) := by decide +kernel
theorem dX8_markOf_43 : decode cX8_markOf 43 = .ok (.aload_n 0, 1) := by decide +kernel
theorem dX8_markOf_44 : decode cX8_markOf 44 = .ok (.iload_n 1, 1) := by decide +kernel
theorem dX8_markOf_45 : decode cX8_markOf 45 = .ok (.invokevirtual 218, 3) := by decide +kernel
theorem dX8_markOf_48 : decode cX8_markOf 48 = .ok (.imul, 1) := by decide +kernel
theorem dX8_markOf_49 : decode cX8_markOf 49 = .ok (.ireturn, 1) := by decide +kernel
theorem dX8_markOf_50 : decode cX8_markOf 50 = .ok (.aload_n 0, 1) := by decide +kernel
theorem dX8_markOf_51 : decode cX8_markOf 51 = .ok (.bipush 22, 2) := by decide +kernel
theorem dX8_markOf_53 : decode cX8_markOf 53 = .ok (.invokevirtual 200, 3) := by decide +kernel
theorem dX8_markOf_56 : decode cX8_markOf 56 = .ok (.aload_n 0, 1) := by decide +kernel
theorem dX8_markOf_57 : decode cX8_markOf 57 = .ok (.iload_n 1, 1) := by decide +kernel
theorem dX8_markOf_58 : decode cX8_markOf 58 = .ok (.invokevirtual 218, 3) := by decide +kernel
theorem dX8_markOf_61 : decode cX8_markOf 61 = .ok (.sipush 1000, 3) := by decide +kernel
theorem dX8_markOf_64 : decode cX8_markOf 64 = .ok (.isub, 1) := by decide +kernel
theorem dX8_markOf_65 : decode cX8_markOf 65 = .ok (.ireturn, 1) := by decide +kernel
theorem dX8_markOf_66 : decode cX8_markOf 66 = .ok (.aload_n 0, 1) := by decide +kernel
theorem dX8_markOf_67 : decode cX8_markOf 67 = .ok (.iload_n 1, 1) := by decide +kernel
theorem dX8_markOf_68 : decode cX8_markOf 68 = .ok (.invokevirtual 218, 3) := by decide +kernel
theorem dX8_markOf_71 : decode cX8_markOf 71 = .ok (.ireturn, 1) := by decide +kernel
set_option maxRecDepth 20000 in
theorem ggX8_mark23_X8_traces : GoodIn wsX8_mark23 wsX8_traces := goodIn_r _ [5, 6, 7, 37, 38, 39, 40, 41, 42, 43, 44, 45, 46, 47, 48, 49, 50, 51] (by decide +kernel) (by decide +kernel)
set_option maxRecDepth 20000 in
theorem gX8_mark23_X8_traces : GoodIn wsX8_mark23 (wsV RX8 200 RX8 yX8_traces wsX8_traces) := goodIn_app (goodIn_of _ (by decide +kernel)) ggX8_mark23_X8_traces
set_option maxRecDepth 20000 in
theorem ggX8_mark23_X8_mark20 : GoodIn wsX8_mark23 wsX8_mark20 := goodIn_r _ [11, 1, 2, 3, 4, 5, 6, 7, 37, 38, 39, 40, 41, 42, 43, 44, 45, 46, 47, 48, 49, 50, 51] (by decide +kernel) (by decide +kernel)
set_option maxRecDepth 20000 in
theorem gX8_mark23_X8_mark20 : GoodIn wsX8_mark23 (wsV RX8 215 RX8 yX8_mark20 wsX8_mark20) := goodIn_app (goodIn_of _ (by decide +kernel)) ggX8_mark23_X8_mark20
set_option maxRecDepth 20000 in
theorem ggX8_mark23_X8_sizeOf : GoodIn wsX8_mark23 wsX8_sizeOf := goodIn_r _ [15, 16, 1, 2, 3, 4, 5, 6, 7, 17, 18, 19, 20, 21, 22, 23, 24, 25, 26, 27, 28, 29, 30, 31, 32, 8, 9, 10, 11, 33, 34, 35, 36, 37, 38, 39, 40, 41, 42, 43, 44, 45, 46, 47, 48, 49, 50, 51] (by decide +kernel) (by decide +kernel)
set_option maxRecDepth 20000 in
theorem gX8_mark23_X8_sizeOf : GoodIn wsX8_mark23 (wsV RX8 221 RX8 yX8_sizeOf wsX8_sizeOf) := goodIn_app (goodIn_of _ (by decide +kernel)) ggX8_mark23_X8_sizeOf
theorem dX8_mark23_0 : decode cX8_mark23 0 = .ok (.aload_n 0, 1) := by decide +kernel
theorem dX8_mark23_1 : decode cX8_mark23 1 = .ok (.bipush 23, 2) := by decide +kernel
theorem dX8_mark23_3 : decode cX8_mark23 3 = .ok (.invokevirtual 200, 3) := by decide +kernel
theorem dX8_mark23_6 : decode cX8_mark23 6 = .ok (.aload_n 0, 1) := by decide +kernel
theorem dX8_mark23_7 : decode cX8_mark23 7 = .ok (.iload_n 1, 1) := by decide +kernel
theorem dX8_mark23_8 : decode cX8_mark23 8 = .ok (.invokevirtual 215, 3) := by decide +kernel
theorem dX8_mark23_11 : decode cX8_mark23 11 = .ok (.istore_n 2, 1) := by decide +kernel
theorem dX8_mark23_12 : decode cX8_mark23 12 = .ok (.iload_n 2, 1) := by decide +kernel
theorem dX8_mark23_13 : decode cX8_mark23 13 = .ok (.aload_n 0, 1) := by decide +kernel
theorem dX8_mark23_14 : decode cX8_mark23 14 = .ok (.iload_n 1, 1) := by decide +kernel
theorem dX8_mark23_15 : decode cX8_mark23 15 = .ok (.invokevirtual 221, 3) := by decide +kernel
theorem dX8_mark23_18 : decode cX8_mark23 18 = .ok (.isub, 1) := by decide +kernel
theorem dX8_mark23_19 : decode cX8_mark23 19 = .ok (.ireturn, 1) := by decide +kernel
set_option maxRecDepth 20000 in
theorem ggX8_ask_X8_isWindow : GoodIn wsX8_ask wsX8_isWindow := goodIn_r _ [8, 3, 9, 10, 7, 11, 49, 50, 51, 52, 53, 54, 55, 56, 57, 58, 59, 60, 61, 62, 63] (by decide +kernel) (by decide +kernel)
set_option maxRecDepth 20000 in
theorem gX8_ask_X8_isWindow : GoodIn wsX8_ask (wsV RX8 149 RX8 yX8_isWindow wsX8_isWindow) := goodIn_app (goodIn_of _ (by decide +kernel)) ggX8_ask_X8_isWindow
set_option maxRecDepth 20000 in
theorem ggX8_ask_X8_in : GoodIn wsX8_ask wsX8_in := goodIn_r _ [11] (by decide +kernel) (by decide +kernel)
set_option maxRecDepth 20000 in
theorem gX8_ask_X8_in : GoodIn wsX8_ask (va_wsS RX8 31 yX8_in wsX8_in) := goodIn_app (goodIn_of _ (by decide +kernel)) ggX8_ask_X8_in
set_option maxRecDepth 20000 in
theorem ggX8_ask_X8_sizeOf : GoodIn wsX8_ask wsX8_sizeOf := goodIn_r _ [15, 3, 16, 17, 18, 7, 19, 2, 20, 21, 22, 23, 24, 25, 26, 27, 28, 29, 30, 31, 32, 33, 34, 35, 36, 37, 38, 39, 40, 41, 42, 43, 44, 49, 50, 51, 52, 53, 54, 55, 56, 57, 58, 59, 60, 61, 62, 63] (by decide +kernel) (by decide +kernel)
set_option maxRecDepth 20000 in
theorem gX8_ask_X8_sizeOf : GoodIn wsX8_ask (wsV RX8 221 RX8 yX8_sizeOf wsX8_sizeOf) := goodIn_app (goodIn_of _ (by decide +kernel)) ggX8_ask_X8_sizeOf
set_option maxRecDepth 20000 in
theorem ggX8_ask_X8_mark23 : GoodIn wsX8_ask wsX8_mark23 := goodIn_r _ [48, 16, 17, 18, 7, 19, 2, 20, 37, 38, 39, 40, 12, 13, 14, 15, 3, 21, 22, 23, 24, 25, 26, 27, 28, 29, 30, 31, 32, 33, 34, 35, 36, 41, 42, 43, 44, 49, 50, 51, 52, 53, 54, 55, 56, 57, 58, 59, 60, 61, 62, 63] (by decide +kernel) (by decide +kernel)
set_option maxRecDepth 20000 in
theorem gX8_ask_X8_mark23 : GoodIn wsX8_ask (wsV RX8 224 RX8 yX8_mark23 wsX8_mark23) := goodIn_app (goodIn_of _ (by decide +kernel)) ggX8_ask_X8_mark23
set_option maxRecDepth 20000 in
theorem ggX8_ask_X8_markOf : GoodIn wsX8_ask wsX8_markOf := goodIn_r _ [32, 3, 16, 17, 18, 7, 19, 2, 20, 33, 34, 35, 36, 37, 38, 39, 40, 49, 50, 51, 52, 53, 54, 55, 56, 57, 58, 59, 60, 61, 62, 63] (by decide +kernel) (by decide +kernel)
set_option maxRecDepth 20000 in
theorem gX8_ask_X8_markOf : GoodIn wsX8_ask (wsV RX8 206 RX8 yX8_markOf wsX8_markOf) := goodIn_app (goodIn_of _ (by decide +kernel)) ggX8_ask_X8_markOf
theorem dX8_ask_0 : decode cX8_ask 0 = .ok (.aload_n 0, 1) := by decide +kernel
theorem dX8_ask_1 : decode cX8_ask 1 = .ok (.iload_n 1, 1) := by decide +kernel
theorem dX8_ask_2 : decode cX8_ask 2 = .ok (.invokevirtual 149, 3) := by decide +kernel
theorem dX8_ask_5 : decode cX8_ask 5 = .ok (.ifCond .eq 13, 3) := by decide +kernel
theorem dX8_ask_8 : decode cX8_ask 8 = .ok (.iload_n 2, 1) := by decide +kernel
theorem dX8_ask_9 : decode cX8_ask 9 = .ok (.i2l, 1) := by decide +kernel
theorem dX8_ask_10 : decode cX8_ask 10 = .ok (.lconst 0, 1) := by decide +kernel
theorem dX8_ask_11 : decode cX8_ask 11 = .ok (.lconst 1, 1) := by decide +kernel
theorem dX8_ask_12 : decode cX8_ask 12 = .ok (.invokestatic 31, 3) := by decide +kernel
theorem dX8_ask_15 : decode cX8_ask 15 = .ok (.ifCond .ne 6, 3) := by decide +kernel
theorem dX8_ask_18 : decode cX8_ask 18 = .ok (.ldc 48, 2) := by decide +kernel
theorem dX8_ask_20 : decode cX8_ask 20 = .ok (.ireturn, 1) := by decide +kernel
theorem dX8_ask_21 : decode cX8_ask 21 = .ok (.aload_n 0, 1) := by decide +kernel
theorem dX8_ask_22 : decode cX8_ask 22 = .ok (.iconst 0, 1) := by decide +kernel
theorem dX8_ask_23 : decode cX8_ask 23 = .ok (.putfield 197, 3) := by decide +kernel
theorem dX8_ask_26 : decode cX8_ask 26 = .ok (.iload_n 2, 1) := by decide +kernel
theorem dX8_ask_27 : decode cX8_ask 27 = .ok (.ifCond .ne 11, 3) := by decide +kernel
theorem dX8_ask_30 : decode cX8_ask 30 = .ok (.aload_n 0, 1) := by decide +kernel
theorem dX8_ask_31 : decode cX8_ask 31 = .ok (.iload_n 1, 1) := by decide +kernel
theorem dX8_ask_32 : decode cX8_ask 32 = .ok (.invokevirtual 221, 3) := by decide +kernel
theorem dX8_ask_35 : decode cX8_ask 35 = .ok (.goto 28, 3) := by decide +kernel
theorem dX8_ask_38 : decode cX8_ask 38 = .ok (.aload_n 0, 1) := by decide +kernel
theorem dX8_ask_39 : decode cX8_ask 39 = .ok (.getfield 7, 3) := by decide +kernel
theorem dX8_ask_42 : decode cX8_ask 42 = .ok (.iconst 5, 1) := by decide +kernel
theorem dX8_ask_43 : decode cX8_ask 43 = .ok (.iload_n 1, 1) := by decide +kernel
theorem dX8_ask_44 : decode cX8_ask 44 = .ok (.iadd, 1) := by decide +kernel
theorem dX8_ask_45 : decode cX8_ask 45 = .ok (.iaload, 1) := by decide +kernel
theorem dX8_ask_46 : decode cX8_ask 46 = .ok (.iconst 4, 1) := by decide +kernel
theorem dX8_ask_47 : decode cX8_ask 47 = .ok (.if_icmp .lt 11, 3) := by decide +kernel
theorem dX8_ask_50 : decode cX8_ask 50 = .ok (.aload_n 0, 1) := by decide +kernel
theorem dX8_ask_51 : decode cX8_ask 51 = .ok (.iload_n 1, 1) := by decide +kernel
theorem dX8_ask_52 : decode cX8_ask 52 = .ok (.invokevirtual 224, 3) := by decide +kernel
theorem dX8_ask_55 : decode cX8_ask 55 = .ok (.goto 8, 3) := by decide +kernel
theorem dX8_ask_58 : decode cX8_ask 58 = .ok (.aload_n 0, 1) := by decide +kernel
theorem dX8_ask_59 : decode cX8_ask 59 = .ok (.iload_n 1, 1) := by decide +kernel
theorem dX8_ask_60 : decode cX8_ask 60 = .ok (.invokevirtual 206, 3) := by decide +kernel
theorem dX8_ask_63 : decode cX8_ask 63 = .ok (.ireturn, 1) := by decide +kernel
set_option maxRecDepth 20000 in
theorem ggX8_trace_X8_in : GoodIn wsX8_trace wsX8_in := goodIn_r _ [7] (by decide +kernel) (by decide +kernel)
set_option maxRecDepth 20000 in
theorem gX8_trace_X8_in : GoodIn wsX8_trace (va_wsS RX8 31 yX8_in wsX8_in) := goodIn_app (goodIn_of _ (by decide +kernel)) ggX8_trace_X8_in
theorem dX8_trace_0 : decode cX8_trace 0 = .ok (.iload_n 1, 1) := by decide +kernel
theorem dX8_trace_1 : decode cX8_trace 1 = .ok (.i2l, 1) := by decide +kernel
theorem dX8_trace_2 : decode cX8_trace 2 = .ok (.lconst 0, 1) := by decide +kernel
theorem dX8_trace_3 : decode cX8_trace 3 = .ok (.aload_n 0, 1) := by decide +kernel
theorem dX8_trace_4 : decode cX8_trace 4 = .ok (.getfield 197, 3) := by decide +kernel
theorem dX8_trace_7 : decode cX8_trace 7 = .ok (.iconst 1, 1) := by decide +kernel
theorem dX8_trace_8 : decode cX8_trace 8 = .ok (.isub, 1) := by decide +kernel
theorem dX8_trace_9 : decode cX8_trace 9 = .ok (.i2l, 1) := by decide +kernel
theorem dX8_trace_10 : decode cX8_trace 10 = .ok (.invokestatic 31, 3) := by decide +kernel
theorem dX8_trace_13 : decode cX8_trace 13 = .ok (.ifCond .eq 12, 3) := by decide +kernel
theorem dX8_trace_16 : decode cX8_trace 16 = .ok (.aload_n 0, 1) := by decide +kernel
theorem dX8_trace_17 : decode cX8_trace 17 = .ok (.getfield 28, 3) := by decide +kernel
theorem dX8_trace_20 : decode cX8_trace 20 = .ok (.iload_n 1, 1) := by decide +kernel
theorem dX8_trace_21 : decode cX8_trace 21 = .ok (.iaload, 1) := by decide +kernel
theorem dX8_trace_22 : decode cX8_trace 22 = .ok (.goto 5, 3) := by decide +kernel
theorem dX8_trace_25 : decode cX8_trace 25 = .ok (.ldc 168, 2) := by decide +kernel
theorem dX8_trace_27 : decode cX8_trace 27 = .ok (.ireturn, 1) := by decide +kernel
theorem dX8_rowsThere_0 : decode cX8_rowsThere 0 = .ok (.iconst 0, 1) := by decide +kernel
theorem dX8_rowsThere_1 : decode cX8_rowsThere 1 = .ok (.istore_n 1, 1) := by decide +kernel
theorem dX8_rowsThere_2 : decode cX8_rowsThere 2 = .ok (.iconst 0, 1) := by decide +kernel
theorem dX8_rowsThere_3 : decode cX8_rowsThere 3 = .ok (.istore_n 2, 1) := by decide +kernel
theorem dX8_rowsThere_4 : decode cX8_rowsThere 4 = .ok (.iload_n 2, 1) := by decide +kernel
theorem dX8_rowsThere_5 : decode cX8_rowsThere 5 = .ok (.bipush 8, 2) := by decide +kernel
theorem dX8_rowsThere_7 : decode cX8_rowsThere 7 = .ok (.if_icmp .ge 26, 3) := by decide +kernel
theorem dX8_rowsThere_10 : decode cX8_rowsThere 10 = .ok (.iload_n 1, 1) := by decide +kernel
theorem dX8_rowsThere_11 : decode cX8_rowsThere 11 = .ok (.aload_n 0, 1) := by decide +kernel
theorem dX8_rowsThere_12 : decode cX8_rowsThere 12 = .ok (.getfield 16, 3) := by decide +kernel
theorem dX8_rowsThere_15 : decode cX8_rowsThere 15 = .ok (.iload_n 2, 1) := by decide +kernel
theorem dX8_rowsThere_16 : decode cX8_rowsThere 16 = .ok (.iaload, 1) := by decide +kernel
theorem dX8_rowsThere_17 : decode cX8_rowsThere 17 = .ok (.ifCond .lt 7, 3) := by decide +kernel
theorem dX8_rowsThere_20 : decode cX8_rowsThere 20 = .ok (.iconst 1, 1) := by decide +kernel
theorem dX8_rowsThere_21 : decode cX8_rowsThere 21 = .ok (.goto 4, 3) := by decide +kernel
theorem dX8_rowsThere_24 : decode cX8_rowsThere 24 = .ok (.iconst 0, 1) := by decide +kernel
theorem dX8_rowsThere_25 : decode cX8_rowsThere 25 = .ok (.iadd, 1) := by decide +kernel
theorem dX8_rowsThere_26 : decode cX8_rowsThere 26 = .ok (.istore_n 1, 1) := by decide +kernel
theorem dX8_rowsThere_27 : decode cX8_rowsThere 27 = .ok (.iinc 2 1, 3) := by decide +kernel
theorem dX8_rowsThere_30 : decode cX8_rowsThere 30 = .ok (.goto (-26), 3) := by decide +kernel
theorem dX8_rowsThere_33 : decode cX8_rowsThere 33 = .ok (.iload_n 1, 1) := by decide +kernel
theorem dX8_rowsThere_34 : decode cX8_rowsThere 34 = .ok (.ireturn, 1) := by decide +kernel
set_option maxRecDepth 20000 in
theorem ggX8_count_X8_rowsThere : GoodIn wsX8_count wsX8_rowsThere := goodIn_r _ [9, 10, 19, 20, 21, 22, 23, 24, 25, 26, 27, 28, 29, 30, 31, 32, 33] (by decide +kernel) (by decide +kernel)
set_option maxRecDepth 20000 in
theorem gX8_count_X8_rowsThere : GoodIn wsX8_count (wsV RX8 227 RX8 yX8_rowsThere wsX8_rowsThere) := goodIn_app (goodIn_of _ (by decide +kernel)) ggX8_count_X8_rowsThere
set_option maxRecDepth 20000 in
theorem ggX8_count_X8_isStreet : GoodIn wsX8_count wsX8_isStreet := goodIn_r _ [14, 1, 19, 20, 21, 22, 23, 24, 25, 26, 27, 28, 29, 30, 31, 32, 33] (by decide +kernel) (by decide +kernel)
set_option maxRecDepth 20000 in
theorem gX8_count_X8_isStreet : GoodIn wsX8_count (wsV RX8 137 RX8 yX8_isStreet wsX8_isStreet) := goodIn_app (goodIn_of _ (by decide +kernel)) ggX8_count_X8_isStreet
set_option maxRecDepth 20000 in
theorem ggX8_count_X8_dateOf : GoodIn wsX8_count wsX8_dateOf := goodIn_r _ [18, 1, 19, 20, 21, 22, 23, 24, 25, 26, 27, 28, 29, 30, 31, 32, 33] (by decide +kernel) (by decide +kernel)
set_option maxRecDepth 20000 in
theorem gX8_count_X8_dateOf : GoodIn wsX8_count (wsV RX8 114 RX8 yX8_dateOf wsX8_dateOf) := goodIn_app (goodIn_of _ (by decide +kernel)) ggX8_count_X8_dateOf
theorem dX8_count_0 : decode cX8_count 0 = .ok (.iload_n 1, 1) := by decide +kernel
theorem dX8_count_1 : decode cX8_count 1 = .ok (.tableswitch 118 0 8 #[51, 56, 63, 70, 87, 94, 101, 108, 113], 51) := by decide +kernel
theorem dX8_count_52 : decode cX8_count 52 = .ok (.aload_n 0, 1) := by decide +kernel
theorem dX8_count_53 : decode cX8_count 53 = .ok (.invokevirtual 227, 3) := by decide +kernel
theorem dX8_count_56 : decode cX8_count 56 = .ok (.ireturn, 1) := by decide +kernel
theorem dX8_count_57 : decode cX8_count 57 = .ok (.aload_n 0, 1) := by decide +kernel
theorem dX8_count_58 : decode cX8_count 58 = .ok (.getfield 7, 3) := by decide +kernel
theorem dX8_count_61 : decode cX8_count 61 = .ok (.iconst 0, 1) := by decide +kernel
theorem dX8_count_62 : decode cX8_count 62 = .ok (.iaload, 1) := by decide +kernel
theorem dX8_count_63 : decode cX8_count 63 = .ok (.ireturn, 1) := by decide +kernel
theorem dX8_count_64 : decode cX8_count 64 = .ok (.aload_n 0, 1) := by decide +kernel
theorem dX8_count_65 : decode cX8_count 65 = .ok (.getfield 7, 3) := by decide +kernel
theorem dX8_count_68 : decode cX8_count 68 = .ok (.iconst 3, 1) := by decide +kernel
theorem dX8_count_69 : decode cX8_count 69 = .ok (.iaload, 1) := by decide +kernel
theorem dX8_count_70 : decode cX8_count 70 = .ok (.ireturn, 1) := by decide +kernel
theorem dX8_count_71 : decode cX8_count 71 = .ok (.aload_n 0, 1) := by decide +kernel
theorem dX8_count_72 : decode cX8_count 72 = .ok (.invokevirtual 137, 3) := by decide +kernel
theorem dX8_count_75 : decode cX8_count 75 = .ok (.ifCond .eq 11, 3) := by decide +kernel
theorem dX8_count_78 : decode cX8_count 78 = .ok (.aload_n 0, 1) := by decide +kernel
theorem dX8_count_79 : decode cX8_count 79 = .ok (.iconst 0, 1) := by decide +kernel
theorem dX8_count_80 : decode cX8_count 80 = .ok (.invokevirtual 114, 3) := by decide +kernel
theorem dX8_count_83 : decode cX8_count 83 = .ok (.goto 4, 3) := by decide +kernel
theorem dX8_count_86 : decode cX8_count 86 = .ok (.iconst 0, 1) := by decide +kernel
theorem dX8_count_87 : decode cX8_count 87 = .ok (.ireturn, 1) := by decide +kernel
theorem dX8_count_88 : decode cX8_count 88 = .ok (.aload_n 0, 1) := by decide +kernel
theorem dX8_count_89 : decode cX8_count 89 = .ok (.getfield 7, 3) := by decide +kernel
theorem dX8_count_92 : decode cX8_count 92 = .ok (.iconst 1, 1) := by decide +kernel
theorem dX8_count_93 : decode cX8_count 93 = .ok (.iaload, 1) := by decide +kernel
theorem dX8_count_94 : decode cX8_count 94 = .ok (.ireturn, 1) := by decide +kernel
theorem dX8_count_95 : decode cX8_count 95 = .ok (.aload_n 0, 1) := by decide +kernel
theorem dX8_count_96 : decode cX8_count 96 = .ok (.getfield 7, 3) := by decide +kernel
theorem dX8_count_99 : decode cX8_count 99 = .ok (.iconst 2, 1) := by decide +kernel
theorem dX8_count_100 : decode cX8_count 100 = .ok (.iaload, 1) := by decide +kernel
theorem dX8_count_101 : decode cX8_count 101 = .ok (.ireturn, 1) := by decide +kernel
theorem dX8_count_102 : decode cX8_count 102 = .ok (.aload_n 0, 1) := by decide +kernel
theorem dX8_count_103 : decode cX8_count 103 = .ok (.getfield 7, 3) := by decide +kernel
theorem dX8_count_106 : decode cX8_count 106 = .ok (.iconst 4, 1) := by decide +kernel
theorem dX8_count_107 : decode cX8_count 107 = .ok (.iaload, 1) := by decide +kernel
theorem dX8_count_108 : decode cX8_count 108 = .ok (.ireturn, 1) := by decide +kernel
theorem dX8_count_109 : decode cX8_count 109 = .ok (.aload_n 0, 1) := by decide +kernel
theorem dX8_count_110 : decode cX8_count 110 = .ok (.getfield 111, 3) := by decide +kernel
theorem dX8_count_113 : decode cX8_count 113 = .ok (.ireturn, 1) := by decide +kernel
theorem dX8_count_114 : decode cX8_count 114 = .ok (.aload_n 0, 1) := by decide +kernel
theorem dX8_count_115 : decode cX8_count 115 = .ok (.getfield 59, 3) := by decide +kernel
theorem dX8_count_118 : decode cX8_count 118 = .ok (.ireturn, 1) := by decide +kernel
theorem dX8_count_119 : decode cX8_count 119 = .ok (.ldc 48, 2) := by decide +kernel
theorem dX8_count_121 : decode cX8_count 121 = .ok (.ireturn, 1) := by decide +kernel
theorem dX8_status_0 : decode cX8_status 0 = .ok (.aload_n 0, 1) := by decide +kernel
theorem dX8_status_1 : decode cX8_status 1 = .ok (.getfield 37, 3) := by decide +kernel
theorem dX8_status_4 : decode cX8_status 4 = .ok (.ireturn, 1) := by decide +kernel
