set_option maxRecDepth 20000 in
theorem ggX1_init_X4_init : GoodIn wsX1_init wsX4_init := goodIn_r _ [9, 10, 2, 3, 11, 12, 13, 14, 15, 16, 17, 18, 19, 20, 21, 22, 23, 24, 25, 26] (by decide +kernel) (by decide +kernel)
set_option maxRecDepth 20000 in
theorem gX1_init_X4_init_n11 : GoodIn wsX1_init (wsX4_init) := ggX1_init_X4_init
theorem dX1_init_0 : decode cX1_init 0 = .ok (.aload_n 0, 1) := by decide +kernel
theorem dX1_init_1 : decode cX1_init 1 = .ok (.invokespecial 3, 3) := by decide +kernel
theorem dX1_init_4 : decode cX1_init 4 = .ok (.aload_n 0, 1) := by decide +kernel
theorem dX1_init_5 : decode cX1_init 5 = .ok (.new 9, 3) := by decide +kernel
theorem dX1_init_8 : decode cX1_init 8 = .ok (.dup, 1) := by decide +kernel
theorem dX1_init_9 : decode cX1_init 9 = .ok (.invokespecial 11, 3) := by decide +kernel
theorem dX1_init_12 : decode cX1_init 12 = .ok (.putfield 12, 3) := by decide +kernel
theorem dX1_init_15 : decode cX1_init 15 = .ok (.return_, 1) := by decide +kernel
set_option maxRecDepth 20000 in
theorem ggX1_behind_X4_take : GoodIn wsX1_behind wsX4_take := goodIn_r _ [6, 7, 8, 9, 10, 11, 12, 13, 14, 15, 16, 17, 18, 19, 20, 68, 69, 70, 71, 72, 73, 74, 75, 76, 77] (by decide +kernel) (by decide +kernel)
set_option maxRecDepth 20000 in
theorem gX1_behind_X4_take : GoodIn wsX1_behind (wsV RX1 18 RX4 yX4_take wsX4_take) := goodIn_app (goodIn_of _ (by decide +kernel)) ggX1_behind_X4_take
set_option maxRecDepth 20000 in
theorem ggX1_behind_X1_turnTrial : GoodIn wsX1_behind wsX1_turnTrial := goodIn_r _ [25, 1, 26, 27, 28, 5, 29, 20, 30, 31, 32, 33, 17, 19, 34, 35, 36, 37, 16, 38, 39, 40, 41, 42, 43, 44, 45, 12, 14, 7, 46, 47, 48, 49, 18, 15, 50, 51, 52, 53, 54, 55, 56, 57, 13, 58, 59, 60, 61, 62, 63, 64, 65, 66, 67, 68, 69, 70, 71, 72, 73, 74, 75, 76, 77] (by decide +kernel) (by decide +kernel)
set_option maxRecDepth 20000 in
theorem gX1_behind_X1_turnTrial : GoodIn wsX1_behind (wsV RX1 22 RX1 yX1_turnTrial wsX1_turnTrial) := goodIn_app (goodIn_of _ (by decide +kernel)) ggX1_behind_X1_turnTrial
theorem dX1_behind_0 : decode cX1_behind 0 = .ok (.aload_n 0, 1) := by decide +kernel
theorem dX1_behind_1 : decode cX1_behind 1 = .ok (.getfield 12, 3) := by decide +kernel
theorem dX1_behind_4 : decode cX1_behind 4 = .ok (.aload_n 1, 1) := by decide +kernel
theorem dX1_behind_5 : decode cX1_behind 5 = .ok (.invokevirtual 18, 3) := by decide +kernel
theorem dX1_behind_8 : decode cX1_behind 8 = .ok (.aload_n 0, 1) := by decide +kernel
theorem dX1_behind_9 : decode cX1_behind 9 = .ok (.iload_n 2, 1) := by decide +kernel
theorem dX1_behind_10 : decode cX1_behind 10 = .ok (.invokevirtual 22, 3) := by decide +kernel
theorem dX1_behind_13 : decode cX1_behind 13 = .ok (.aload_n 0, 1) := by decide +kernel
theorem dX1_behind_14 : decode cX1_behind 14 = .ok (.getfield 12, 3) := by decide +kernel
theorem dX1_behind_17 : decode cX1_behind 17 = .ok (.areturn, 1) := by decide +kernel
set_option maxRecDepth 20000 in
theorem ggX1_turnTrial_X4_turn : GoodIn wsX1_turnTrial wsX4_turn := goodIn_r _ [6, 7, 8, 9, 10, 5, 11, 12, 13, 14, 15, 16, 17, 18, 19, 20, 21, 22, 23, 24, 25, 26, 27, 28, 29, 30, 31, 32, 33, 34, 35, 36, 37, 38, 39, 40, 41, 42, 43, 44, 45, 46, 47, 48, 49, 50, 51, 52, 55, 56, 57, 58, 59, 60, 61, 62, 63, 64] (by decide +kernel) (by decide +kernel)
set_option maxRecDepth 20000 in
theorem gX1_turnTrial_X4_turn : GoodIn wsX1_turnTrial (wsV RX1 26 RX4 yX4_turn wsX4_turn) := goodIn_app (goodIn_of _ (by decide +kernel)) ggX1_turnTrial_X4_turn
theorem dX1_turnTrial_0 : decode cX1_turnTrial 0 = .ok (.iconst 0, 1) := by decide +kernel
theorem dX1_turnTrial_1 : decode cX1_turnTrial 1 = .ok (.istore_n 2, 1) := by decide +kernel
theorem dX1_turnTrial_2 : decode cX1_turnTrial 2 = .ok (.iload_n 2, 1) := by decide +kernel
theorem dX1_turnTrial_3 : decode cX1_turnTrial 3 = .ok (.iload_n 1, 1) := by decide +kernel
theorem dX1_turnTrial_4 : decode cX1_turnTrial 4 = .ok (.if_icmp .ge 16, 3) := by decide +kernel
theorem dX1_turnTrial_7 : decode cX1_turnTrial 7 = .ok (.aload_n 0, 1) := by decide +kernel
theorem dX1_turnTrial_8 : decode cX1_turnTrial 8 = .ok (.getfield 12, 3) := by decide +kernel
theorem dX1_turnTrial_11 : decode cX1_turnTrial 11 = .ok (.invokevirtual 26, 3) := by decide +kernel
theorem dX1_turnTrial_14 : decode cX1_turnTrial 14 = .ok (.iinc 2 1, 3) := by decide +kernel
theorem dX1_turnTrial_17 : decode cX1_turnTrial 17 = .ok (.goto (-15), 3) := by decide +kernel
theorem dX1_turnTrial_20 : decode cX1_turnTrial 20 = .ok (.return_, 1) := by decide +kernel
set_option maxRecDepth 20000 in
theorem ggX1_turnsTillSeen_X4_take : GoodIn wsX1_turnsTillSeen wsX4_take := goodIn_r _ [7, 8, 9, 10, 11, 12, 13, 14, 15, 16, 17, 18, 19, 20, 21, 64, 65, 66, 67, 68, 69, 70, 71, 72, 73] (by decide +kernel) (by decide +kernel)
set_option maxRecDepth 20000 in
theorem gX1_turnsTillSeen_X4_take : GoodIn wsX1_turnsTillSeen (wsV RX1 18 RX4 yX4_take wsX4_take) := goodIn_app (goodIn_of _ (by decide +kernel)) ggX1_turnsTillSeen_X4_take
set_option maxRecDepth 20000 in
theorem ggX1_turnsTillSeen_X4_turn : GoodIn wsX1_turnsTillSeen wsX4_turn := goodIn_r _ [25, 21, 26, 27, 28, 6, 29, 18, 20, 30, 31, 32, 33, 17, 34, 35, 36, 37, 38, 39, 40, 41, 13, 15, 8, 42, 43, 44, 45, 19, 16, 46, 47, 48, 49, 50, 51, 52, 53, 14, 54, 55, 56, 57, 58, 59, 60, 61, 64, 65, 66, 67, 68, 69, 70, 71, 72, 73] (by decide +kernel) (by decide +kernel)
set_option maxRecDepth 20000 in
theorem gX1_turnsTillSeen_X4_turn : GoodIn wsX1_turnsTillSeen (wsV RX1 26 RX4 yX4_turn wsX4_turn) := goodIn_app (goodIn_of _ (by decide +kernel)) ggX1_turnsTillSeen_X4_turn
theorem dX1_turnsTillSeen_0 : decode cX1_turnsTillSeen 0 = .ok (.aload_n 0, 1) := by decide +kernel
theorem dX1_turnsTillSeen_1 : decode cX1_turnsTillSeen 1 = .ok (.getfield 12, 3) := by decide +kernel
theorem dX1_turnsTillSeen_4 : decode cX1_turnsTillSeen 4 = .ok (.aload_n 1, 1) := by decide +kernel
theorem dX1_turnsTillSeen_5 : decode cX1_turnsTillSeen 5 = .ok (.invokevirtual 18, 3) := by decide +kernel
theorem dX1_turnsTillSeen_8 : decode cX1_turnsTillSeen 8 = .ok (.iconst 0, 1) := by decide +kernel
theorem dX1_turnsTillSeen_9 : decode cX1_turnsTillSeen 9 = .ok (.istore 4, 2) := by decide +kernel
theorem dX1_turnsTillSeen_11 : decode cX1_turnsTillSeen 11 = .ok (.iload 4, 2) := by decide +kernel
theorem dX1_turnsTillSeen_13 : decode cX1_turnsTillSeen 13 = .ok (.bipush 60, 2) := by decide +kernel
theorem dX1_turnsTillSeen_15 : decode cX1_turnsTillSeen 15 = .ok (.if_icmp .gt 35, 3) := by decide +kernel
theorem dX1_turnsTillSeen_18 : decode cX1_turnsTillSeen 18 = .ok (.aload_n 0, 1) := by decide +kernel
theorem dX1_turnsTillSeen_19 : decode cX1_turnsTillSeen 19 = .ok (.getfield 12, 3) := by decide +kernel
theorem dX1_turnsTillSeen_22 : decode cX1_turnsTillSeen 22 = .ok (.getfield 29, 3) := by decide +kernel
theorem dX1_turnsTillSeen_25 : decode cX1_turnsTillSeen 25 = .ok (.iload_n 2, 1) := by decide +kernel
theorem dX1_turnsTillSeen_26 : decode cX1_turnsTillSeen 26 = .ok (.iaload, 1) := by decide +kernel
theorem dX1_turnsTillSeen_27 : decode cX1_turnsTillSeen 27 = .ok (.iload_n 3, 1) := by decide +kernel
theorem dX1_turnsTillSeen_28 : decode cX1_turnsTillSeen 28 = .ok (.ishr, 1) := by decide +kernel
theorem dX1_turnsTillSeen_29 : decode cX1_turnsTillSeen 29 = .ok (.iconst 1, 1) := by decide +kernel
theorem dX1_turnsTillSeen_30 : decode cX1_turnsTillSeen 30 = .ok (.iand, 1) := by decide +kernel
theorem dX1_turnsTillSeen_31 : decode cX1_turnsTillSeen 31 = .ok (.ifCond .eq 6, 3) := by decide +kernel
theorem dX1_turnsTillSeen_34 : decode cX1_turnsTillSeen 34 = .ok (.iload 4, 2) := by decide +kernel
theorem dX1_turnsTillSeen_36 : decode cX1_turnsTillSeen 36 = .ok (.ireturn, 1) := by decide +kernel
theorem dX1_turnsTillSeen_37 : decode cX1_turnsTillSeen 37 = .ok (.aload_n 0, 1) := by decide +kernel
theorem dX1_turnsTillSeen_38 : decode cX1_turnsTillSeen 38 = .ok (.getfield 12, 3) := by decide +kernel
theorem dX1_turnsTillSeen_41 : decode cX1_turnsTillSeen 41 = .ok (.invokevirtual 26, 3) := by decide +kernel
theorem dX1_turnsTillSeen_44 : decode cX1_turnsTillSeen 44 = .ok (.iinc 4 1, 3) := by decide +kernel
theorem dX1_turnsTillSeen_47 : decode cX1_turnsTillSeen 47 = .ok (.goto (-36), 3) := by decide +kernel
theorem dX1_turnsTillSeen_50 : decode cX1_turnsTillSeen 50 = .ok (.ldc 33, 2) := by decide +kernel
theorem dX1_turnsTillSeen_52 : decode cX1_turnsTillSeen 52 = .ok (.ireturn, 1) := by decide +kernel
set_option maxRecDepth 20000 in
theorem ggX1_turnsTillBare_X4_take : GoodIn wsX1_turnsTillBare wsX4_take := goodIn_r _ [7, 8, 9, 10, 11, 12, 13, 14, 15, 16, 17, 18, 19, 20, 21, 69, 70, 71, 72, 73, 74, 75, 76, 77, 78] (by decide +kernel) (by decide +kernel)
set_option maxRecDepth 20000 in
theorem gX1_turnsTillBare_X4_take : GoodIn wsX1_turnsTillBare (wsV RX1 18 RX4 yX4_take wsX4_take) := goodIn_app (goodIn_of _ (by decide +kernel)) ggX1_turnsTillBare_X4_take
set_option maxRecDepth 20000 in
theorem ggX1_turnsTillBare_X4_firstBare : GoodIn wsX1_turnsTillBare wsX4_firstBare := goodIn_r _ [25, 17, 15, 26, 69, 70, 71, 72, 73, 74, 75, 76, 77, 78] (by decide +kernel) (by decide +kernel)
set_option maxRecDepth 20000 in
theorem gX1_turnsTillBare_X4_firstBare : GoodIn wsX1_turnsTillBare (wsV RX1 34 RX4 yX4_firstBare wsX4_firstBare) := goodIn_app (goodIn_of _ (by decide +kernel)) ggX1_turnsTillBare_X4_firstBare
set_option maxRecDepth 20000 in
theorem ggX1_turnsTillBare_X4_turn : GoodIn wsX1_turnsTillBare wsX4_turn := goodIn_r _ [30, 21, 31, 32, 33, 6, 34, 18, 20, 35, 36, 37, 38, 17, 39, 40, 41, 42, 43, 44, 45, 46, 13, 15, 8, 47, 48, 49, 50, 19, 16, 51, 52, 53, 54, 55, 56, 57, 58, 14, 59, 60, 61, 62, 63, 64, 65, 66, 69, 70, 71, 72, 73, 74, 75, 76, 77, 78] (by decide +kernel) (by decide +kernel)
set_option maxRecDepth 20000 in
theorem gX1_turnsTillBare_X4_turn : GoodIn wsX1_turnsTillBare (wsV RX1 26 RX4 yX4_turn wsX4_turn) := goodIn_app (goodIn_of _ (by decide +kernel)) ggX1_turnsTillBare_X4_turn
theorem dX1_turnsTillBare_0 : decode cX1_turnsTillBare 0 = .ok (.aload_n 0, 1) := by decide +kernel
theorem dX1_turnsTillBare_1 : decode cX1_turnsTillBare 1 = .ok (.getfield 12, 3) := by decide +kernel
theorem dX1_turnsTillBare_4 : decode cX1_turnsTillBare 4 = .ok (.aload_n 1, 1) := by decide +kernel
theorem dX1_turnsTillBare_5 : decode cX1_turnsTillBare 5 = .ok (.invokevirtual 18, 3) := by decide +kernel
theorem dX1_turnsTillBare_8 : decode cX1_turnsTillBare 8 = .ok (.iconst 0, 1) := by decide +kernel
theorem dX1_turnsTillBare_9 : decode cX1_turnsTillBare 9 = .ok (.istore_n 2, 1) := by decide +kernel
theorem dX1_turnsTillBare_10 : decode cX1_turnsTillBare 10 = .ok (.iload_n 2, 1) := by decide +kernel
theorem dX1_turnsTillBare_11 : decode cX1_turnsTillBare 11 = .ok (.bipush 60, 2) := by decide +kernel
theorem dX1_turnsTillBare_13 : decode cX1_turnsTillBare 13 = .ok (.if_icmp .ge 30, 3) := by decide +kernel
theorem dX1_turnsTillBare_16 : decode cX1_turnsTillBare 16 = .ok (.aload_n 0, 1) := by decide +kernel
theorem dX1_turnsTillBare_17 : decode cX1_turnsTillBare 17 = .ok (.getfield 12, 3) := by decide +kernel
theorem dX1_turnsTillBare_20 : decode cX1_turnsTillBare 20 = .ok (.invokevirtual 34, 3) := by decide +kernel
theorem dX1_turnsTillBare_23 : decode cX1_turnsTillBare 23 = .ok (.ldc 33, 2) := by decide +kernel
theorem dX1_turnsTillBare_25 : decode cX1_turnsTillBare 25 = .ok (.if_icmp .eq 5, 3) := by decide +kernel
theorem dX1_turnsTillBare_28 : decode cX1_turnsTillBare 28 = .ok (.iload_n 2, 1) := by decide +kernel
theorem dX1_turnsTillBare_29 : decode cX1_turnsTillBare 29 = .ok (.ireturn, 1) := by decide +kernel
theorem dX1_turnsTillBare_30 : decode cX1_turnsTillBare 30 = .ok (.aload_n 0, 1) := by decide +kernel
theorem dX1_turnsTillBare_31 : decode cX1_turnsTillBare 31 = .ok (.getfield 12, 3) := by decide +kernel
theorem dX1_turnsTillBare_34 : decode cX1_turnsTillBare 34 = .ok (.invokevirtual 26, 3) := by decide +kernel
theorem dX1_turnsTillBare_37 : decode cX1_turnsTillBare 37 = .ok (.iinc 2 1, 3) := by decide +kernel
theorem dX1_turnsTillBare_40 : decode cX1_turnsTillBare 40 = .ok (.goto (-30), 3) := by decide +kernel
theorem dX1_turnsTillBare_43 : decode cX1_turnsTillBare 43 = .ok (.aload_n 0, 1) := by decide +kernel
theorem dX1_turnsTillBare_44 : decode cX1_turnsTillBare 44 = .ok (.getfield 12, 3) := by decide +kernel
theorem dX1_turnsTillBare_47 : decode cX1_turnsTillBare 47 = .ok (.invokevirtual 34, 3) := by decide +kernel
theorem dX1_turnsTillBare_50 : decode cX1_turnsTillBare 50 = .ok (.ldc 33, 2) := by decide +kernel
theorem dX1_turnsTillBare_52 : decode cX1_turnsTillBare 52 = .ok (.if_icmp .eq 8, 3) := by decide +kernel
theorem dX1_turnsTillBare_55 : decode cX1_turnsTillBare 55 = .ok (.bipush 60, 2) := by decide +kernel
theorem dX1_turnsTillBare_57 : decode cX1_turnsTillBare 57 = .ok (.goto 5, 3) := by decide +kernel
theorem dX1_turnsTillBare_60 : decode cX1_turnsTillBare 60 = .ok (.ldc 33, 2) := by decide +kernel
theorem dX1_turnsTillBare_62 : decode cX1_turnsTillBare 62 = .ok (.ireturn, 1) := by decide +kernel
set_option maxRecDepth 20000 in
theorem ggX1_fewestGlued_X4_isOpen : GoodIn wsX1_fewestGlued wsX4_isOpen := goodIn_r _ [6, 7, 84, 85, 86, 87, 88, 89, 90, 91, 92, 93] (by decide +kernel) (by decide +kernel)
set_option maxRecDepth 20000 in
theorem gX1_fewestGlued_X4_isOpen : GoodIn wsX1_fewestGlued (wsV RX1 38 RX4 yX4_isOpen wsX4_isOpen) := goodIn_app (goodIn_of _ (by decide +kernel)) ggX1_fewestGlued_X4_isOpen
set_option maxRecDepth 20000 in
theorem ggX1_fewestGlued_X4_touching : GoodIn wsX1_fewestGlued wsX4_touching := goodIn_r _ [11, 12, 13, 14, 15, 5, 16, 17, 18, 19, 20, 21, 84, 85, 86, 87, 88, 89, 90, 91, 92, 93] (by decide +kernel) (by decide +kernel)
set_option maxRecDepth 20000 in
theorem gX1_fewestGlued_X4_touching : GoodIn wsX1_fewestGlued (wsV RX1 42 RX4 yX4_touching wsX4_touching) := goodIn_app (goodIn_of _ (by decide +kernel)) ggX1_fewestGlued_X4_touching
set_option maxRecDepth 20000 in
theorem ggX1_fewestGlued_X4_gluable : GoodIn wsX1_fewestGlued wsX4_gluable := goodIn_r _ [25, 12, 17, 26, 84, 85, 86, 87, 88, 89, 90, 91, 92, 93] (by decide +kernel) (by decide +kernel)
set_option maxRecDepth 20000 in
theorem gX1_fewestGlued_X4_gluable : GoodIn wsX1_fewestGlued (wsV RX1 46 RX4 yX4_gluable wsX4_gluable) := goodIn_app (goodIn_of _ (by decide +kernel)) ggX1_fewestGlued_X4_gluable
set_option maxRecDepth 20000 in
theorem ggX1_fewestGlued_J6_bitCount_0f7a4 : GoodIn wsX1_fewestGlued wsJ6_bitCount_0f7a4 := goodIn_r _ [30, 31, 32, 33] (by decide +kernel) (by decide +kernel)
set_option maxRecDepth 20000 in
theorem gX1_fewestGlued_J6_bitCount_0f7a4 : GoodIn wsX1_fewestGlued (va_wsS RX1 49 yJ6_bitCount_0f7a4 wsJ6_bitCount_0f7a4) := goodIn_app (goodIn_of _ (by decide +kernel)) ggX1_fewestGlued_J6_bitCount_0f7a4
set_option maxRecDepth 20000 in
theorem ggX1_fewestGlued_X1_staysShut : GoodIn wsX1_fewestGlued wsX1_staysShut := goodIn_r _ [38, 39, 40, 41, 42, 5, 43, 17, 44, 45, 46, 47, 48, 49, 26, 50, 12, 51, 52, 53, 7, 54, 55, 56, 57, 58, 59, 60, 61, 62, 63, 64, 65, 66, 67, 68, 69, 70, 71, 72, 73, 74, 75, 76, 77, 78, 79, 80, 81, 82, 83, 94, 95, 84, 85, 86, 87, 88, 89, 90, 91, 92, 93] (by decide +kernel) (by decide +kernel)
set_option maxRecDepth 20000 in
theorem gX1_fewestGlued_X1_staysShut : GoodIn wsX1_fewestGlued (wsV RX1 54 RX1 yX1_staysShut wsX1_staysShut) := goodIn_app (goodIn_of _ (by decide +kernel)) ggX1_fewestGlued_X1_staysShut
theorem dX1_fewestGlued_0 : decode cX1_fewestGlued 0 = .ok (.aload_n 1, 1) := by decide +kernel
theorem dX1_fewestGlued_1 : decode cX1_fewestGlued 1 = .ok (.iload_n 2, 1) := by decide +kernel
theorem dX1_fewestGlued_2 : decode cX1_fewestGlued 2 = .ok (.invokevirtual 38, 3) := by decide +kernel
theorem dX1_fewestGlued_5 : decode cX1_fewestGlued 5 = .ok (.ifCond .eq 6, 3) := by decide +kernel
theorem dX1_fewestGlued_8 : decode cX1_fewestGlued 8 = .ok (.ldc 33, 2) := by decide +kernel
theorem dX1_fewestGlued_10 : decode cX1_fewestGlued 10 = .ok (.ireturn, 1) := by decide +kernel
theorem dX1_fewestGlued_11 : decode cX1_fewestGlued 11 = .ok (.aload_n 1, 1) := by decide +kernel
theorem dX1_fewestGlued_12 : decode cX1_fewestGlued 12 = .ok (.iload_n 2, 1) := by decide +kernel
theorem dX1_fewestGlued_13 : decode cX1_fewestGlued 13 = .ok (.invokevirtual 42, 3) := by decide +kernel
theorem dX1_fewestGlued_16 : decode cX1_fewestGlued 16 = .ok (.istore 4, 2) := by decide +kernel
theorem dX1_fewestGlued_18 : decode cX1_fewestGlued 18 = .ok (.iload 4, 2) := by decide +kernel
theorem dX1_fewestGlued_20 : decode cX1_fewestGlued 20 = .ok (.aload_n 1, 1) := by decide +kernel
theorem dX1_fewestGlued_21 : decode cX1_fewestGlued 21 = .ok (.invokevirtual 46, 3) := by decide +kernel
theorem dX1_fewestGlued_24 : decode cX1_fewestGlued 24 = .ok (.iand, 1) := by decide +kernel
theorem dX1_fewestGlued_25 : decode cX1_fewestGlued 25 = .ok (.istore 5, 2) := by decide +kernel
theorem dX1_fewestGlued_27 : decode cX1_fewestGlued 27 = .ok (.ldc 33, 2) := by decide +kernel
theorem dX1_fewestGlued_29 : decode cX1_fewestGlued 29 = .ok (.istore 6, 2) := by decide +kernel
theorem dX1_fewestGlued_31 : decode cX1_fewestGlued 31 = .ok (.iconst 0, 1) := by decide +kernel
theorem dX1_fewestGlued_32 : decode cX1_fewestGlued 32 = .ok (.istore 7, 2) := by decide +kernel
theorem dX1_fewestGlued_34 : decode cX1_fewestGlued 34 = .ok (.iload 7, 2) := by decide +kernel
theorem dX1_fewestGlued_36 : decode cX1_fewestGlued 36 = .ok (.iload 5, 2) := by decide +kernel
theorem dX1_fewestGlued_38 : decode cX1_fewestGlued 38 = .ok (.if_icmp .gt 69, 3) := by decide +kernel
theorem dX1_fewestGlued_41 : decode cX1_fewestGlued 41 = .ok (.iload 6, 2) := by decide +kernel
theorem dX1_fewestGlued_43 : decode cX1_fewestGlued 43 = .ok (.ldc 33, 2) := by decide +kernel
theorem dX1_fewestGlued_45 : decode cX1_fewestGlued 45 = .ok (.if_icmp .eq 16, 3) := by decide +kernel
theorem dX1_fewestGlued_48 : decode cX1_fewestGlued 48 = .ok (.iload 7, 2) := by decide +kernel
theorem dX1_fewestGlued_50 : decode cX1_fewestGlued 50 = .ok (.invokestatic 49, 3) := by decide +kernel
theorem dX1_fewestGlued_53 : decode cX1_fewestGlued 53 = .ok (.iload 6, 2) := by decide +kernel
theorem dX1_fewestGlued_55 : decode cX1_fewestGlued 55 = .ok (.invokestatic 49, 3) := by decide +kernel
theorem dX1_fewestGlued_58 : decode cX1_fewestGlued 58 = .ok (.if_icmp .ge 7, 3) := by decide +kernel
theorem dX1_fewestGlued_61 : decode cX1_fewestGlued 61 = .ok (.iconst 1, 1) := by decide +kernel
theorem dX1_fewestGlued_62 : decode cX1_fewestGlued 62 = .ok (.goto 4, 3) := by decide +kernel
theorem dX1_fewestGlued_65 : decode cX1_fewestGlued 65 = .ok (.iconst 0, 1) := by decide +kernel
theorem dX1_fewestGlued_66 : decode cX1_fewestGlued 66 = .ok (.istore 8, 2) := by decide +kernel
theorem dX1_fewestGlued_68 : decode cX1_fewestGlued 68 = .ok (.iload 7, 2) := by decide +kernel
theorem dX1_fewestGlued_70 : decode cX1_fewestGlued 70 = .ok (.iload 5, 2) := by decide +kernel
theorem dX1_fewestGlued_72 : decode cX1_fewestGlued 72 = .ok (.iconst (-1), 1) := by decide +kernel
theorem dX1_fewestGlued_73 : decode cX1_fewestGlued 73 = .ok (.ixor, 1) := by decide +kernel
theorem dX1_fewestGlued_74 : decode cX1_fewestGlued 74 = .ok (.iand, 1) := by decide +kernel
theorem dX1_fewestGlued_75 : decode cX1_fewestGlued 75 = .ok (.ifCond .ne 26, 3) := by decide +kernel
theorem dX1_fewestGlued_78 : decode cX1_fewestGlued 78 = .ok (.iload 8, 2) := by decide +kernel
theorem dX1_fewestGlued_80 : decode cX1_fewestGlued 80 = .ok (.ifCond .eq 21, 3) := by decide +kernel
theorem dX1_fewestGlued_83 : decode cX1_fewestGlued 83 = .ok (.aload_n 0, 1) := by decide +kernel
theorem dX1_fewestGlued_84 : decode cX1_fewestGlued 84 = .ok (.aload_n 1, 1) := by decide +kernel
theorem dX1_fewestGlued_85 : decode cX1_fewestGlued 85 = .ok (.iload_n 2, 1) := by decide +kernel
theorem dX1_fewestGlued_86 : decode cX1_fewestGlued 86 = .ok (.iload_n 3, 1) := by decide +kernel
theorem dX1_fewestGlued_87 : decode cX1_fewestGlued 87 = .ok (.iload 7, 2) := by decide +kernel
theorem dX1_fewestGlued_89 : decode cX1_fewestGlued 89 = .ok (.iload 4, 2) := by decide +kernel
theorem dX1_fewestGlued_91 : decode cX1_fewestGlued 91 = .ok (.invokevirtual 54, 3) := by decide +kernel
theorem dX1_fewestGlued_94 : decode cX1_fewestGlued 94 = .ok (.ifCond .eq 7, 3) := by decide +kernel
theorem dX1_fewestGlued_97 : decode cX1_fewestGlued 97 = .ok (.iload 7, 2) := by decide +kernel
theorem dX1_fewestGlued_99 : decode cX1_fewestGlued 99 = .ok (.istore 6, 2) := by decide +kernel
theorem dX1_fewestGlued_101 : decode cX1_fewestGlued 101 = .ok (.iinc 7 1, 3) := by decide +kernel
theorem dX1_fewestGlued_104 : decode cX1_fewestGlued 104 = .ok (.goto (-70), 3) := by decide +kernel
theorem dX1_fewestGlued_107 : decode cX1_fewestGlued 107 = .ok (.iload 6, 2) := by decide +kernel
theorem dX1_fewestGlued_109 : decode cX1_fewestGlued 109 = .ok (.ireturn, 1) := by decide +kernel
set_option maxRecDepth 20000 in
theorem ggX1_staysShut_X4_take : GoodIn wsX1_staysShut wsX4_take := goodIn_r _ [6, 7, 8, 9, 10, 11, 12, 13, 14, 15, 16, 17, 18, 19, 20, 53, 54, 55, 56, 57, 58, 59, 60, 61, 62] (by decide +kernel) (by decide +kernel)
set_option maxRecDepth 20000 in
theorem gX1_staysShut_X4_take : GoodIn wsX1_staysShut (wsV RX1 18 RX4 yX4_take wsX4_take) := goodIn_app (goodIn_of _ (by decide +kernel)) ggX1_staysShut_X4_take
set_option maxRecDepth 20000 in
theorem ggX1_staysShut_X4_glueFast : GoodIn wsX1_staysShut wsX4_glueFast := goodIn_r _ [24, 16, 14, 53, 54, 55, 56, 57, 58, 59, 60, 61, 62] (by decide +kernel) (by decide +kernel)
set_option maxRecDepth 20000 in
theorem gX1_staysShut_X4_glueFast : GoodIn wsX1_staysShut (wsV RX1 58 RX4 yX4_glueFast wsX4_glueFast) := goodIn_app (goodIn_of _ (by decide +kernel)) ggX1_staysShut_X4_glueFast
set_option maxRecDepth 20000 in
theorem ggX1_staysShut_X4_date : GoodIn wsX1_staysShut wsX4_date := goodIn_r _ [28, 17, 19, 53, 54, 55, 56, 57, 58, 59, 60, 61, 62] (by decide +kernel) (by decide +kernel)
set_option maxRecDepth 20000 in
theorem gX1_staysShut_X4_date : GoodIn wsX1_staysShut (wsV RX1 61 RX4 yX4_date wsX4_date) := goodIn_app (goodIn_of _ (by decide +kernel)) ggX1_staysShut_X4_date
set_option maxRecDepth 20000 in
theorem ggX1_staysShut_X4_wouldOpen : GoodIn wsX1_staysShut wsX4_wouldOpen := goodIn_r _ [32, 12, 14, 7, 20, 53, 54, 55, 56, 57, 58, 59, 60, 61, 62] (by decide +kernel) (by decide +kernel)
set_option maxRecDepth 20000 in
theorem gX1_staysShut_X4_wouldOpen : GoodIn wsX1_staysShut (wsV RX1 64 RX4 yX4_wouldOpen wsX4_wouldOpen) := goodIn_app (goodIn_of _ (by decide +kernel)) ggX1_staysShut_X4_wouldOpen
set_option maxRecDepth 20000 in
theorem ggX1_staysShut_X4_turnUnseen : GoodIn wsX1_staysShut wsX4_turnUnseen := goodIn_r _ [36, 20, 37, 26, 27, 5, 28, 17, 19, 38, 39, 40, 41, 16, 42, 30, 31, 32, 12, 14, 7, 43, 44, 45, 46, 47, 48, 49, 50, 53, 54, 55, 56, 57, 58, 59, 60, 61, 62] (by decide +kernel) (by decide +kernel)
set_option maxRecDepth 20000 in
theorem gX1_staysShut_X4_turnUnseen : GoodIn wsX1_staysShut (wsV RX1 68 RX4 yX4_turnUnseen wsX4_turnUnseen) := goodIn_app (goodIn_of _ (by decide +kernel)) ggX1_staysShut_X4_turnUnseen
theorem dX1_staysShut_0 : decode cX1_staysShut 0 = .ok (.aload_n 0, 1) := by decide +kernel
theorem dX1_staysShut_1 : decode cX1_staysShut 1 = .ok (.getfield 12, 3) := by decide +kernel
theorem dX1_staysShut_4 : decode cX1_staysShut 4 = .ok (.aload_n 1, 1) := by decide +kernel
theorem dX1_staysShut_5 : decode cX1_staysShut 5 = .ok (.invokevirtual 18, 3) := by decide +kernel
theorem dX1_staysShut_8 : decode cX1_staysShut 8 = .ok (.aload_n 0, 1) := by decide +kernel
theorem dX1_staysShut_9 : decode cX1_staysShut 9 = .ok (.getfield 12, 3) := by decide +kernel
theorem dX1_staysShut_12 : decode cX1_staysShut 12 = .ok (.iload 4, 2) := by decide +kernel
theorem dX1_staysShut_14 : decode cX1_staysShut 14 = .ok (.invokevirtual 58, 3) := by decide +kernel
theorem dX1_staysShut_17 : decode cX1_staysShut 17 = .ok (.iconst 0, 1) := by decide +kernel
theorem dX1_staysShut_18 : decode cX1_staysShut 18 = .ok (.istore 6, 2) := by decide +kernel
theorem dX1_staysShut_20 : decode cX1_staysShut 20 = .ok (.iload 6, 2) := by decide +kernel
theorem dX1_staysShut_22 : decode cX1_staysShut 22 = .ok (.iload_n 3, 1) := by decide +kernel
theorem dX1_staysShut_23 : decode cX1_staysShut 23 = .ok (.if_icmp .ge 38, 3) := by decide +kernel
theorem dX1_staysShut_26 : decode cX1_staysShut 26 = .ok (.aload_n 0, 1) := by decide +kernel
theorem dX1_staysShut_27 : decode cX1_staysShut 27 = .ok (.getfield 12, 3) := by decide +kernel
theorem dX1_staysShut_30 : decode cX1_staysShut 30 = .ok (.iload_n 2, 1) := by decide +kernel
theorem dX1_staysShut_31 : decode cX1_staysShut 31 = .ok (.aload_n 0, 1) := by decide +kernel
theorem dX1_staysShut_32 : decode cX1_staysShut 32 = .ok (.getfield 12, 3) := by decide +kernel
theorem dX1_staysShut_35 : decode cX1_staysShut 35 = .ok (.invokevirtual 61, 3) := by decide +kernel
theorem dX1_staysShut_38 : decode cX1_staysShut 38 = .ok (.invokevirtual 64, 3) := by decide +kernel
theorem dX1_staysShut_41 : decode cX1_staysShut 41 = .ok (.ifCond .eq 5, 3) := by decide +kernel
theorem dX1_staysShut_44 : decode cX1_staysShut 44 = .ok (.iconst 0, 1) := by decide +kernel
theorem dX1_staysShut_45 : decode cX1_staysShut 45 = .ok (.ireturn, 1) := by decide +kernel
theorem dX1_staysShut_46 : decode cX1_staysShut 46 = .ok (.aload_n 0, 1) := by decide +kernel
theorem dX1_staysShut_47 : decode cX1_staysShut 47 = .ok (.getfield 12, 3) := by decide +kernel
theorem dX1_staysShut_50 : decode cX1_staysShut 50 = .ok (.iload 5, 2) := by decide +kernel
theorem dX1_staysShut_52 : decode cX1_staysShut 52 = .ok (.invokevirtual 68, 3) := by decide +kernel
theorem dX1_staysShut_55 : decode cX1_staysShut 55 = .ok (.iinc 6 1, 3) := by decide +kernel
theorem dX1_staysShut_58 : decode cX1_staysShut 58 = .ok (.goto (-38), 3) := by decide +kernel
theorem dX1_staysShut_61 : decode cX1_staysShut 61 = .ok (.iconst 1, 1) := by decide +kernel
theorem dX1_staysShut_62 : decode cX1_staysShut 62 = .ok (.ireturn, 1) := by decide +kernel
set_option maxRecDepth 20000 in
theorem ggX1_bestTrade_X1_seenByTrade : GoodIn wsX1_bestTrade wsX1_seenByTrade := goodIn_r _ [7, 8, 9, 10, 11, 12, 13, 14, 15, 16, 17, 18, 19, 20, 21, 22, 23, 24, 25, 26, 27, 28, 29, 30, 31, 32, 33, 34, 6, 35, 36, 37, 38, 39, 40, 41, 42, 43, 44, 45, 46, 47, 48, 49, 50, 51, 52, 53, 54, 55, 56, 57, 58, 59, 60, 61, 62, 63, 64, 65, 66, 67, 68, 69, 70, 71, 72, 73, 74, 75, 76, 77, 78, 79, 80, 81, 82, 83, 84, 85, 86, 87, 88, 89, 90, 91, 92, 93, 94] (by decide +kernel) (by decide +kernel)
set_option maxRecDepth 20000 in
theorem gX1_bestTrade_X1_seenByTrade : GoodIn wsX1_bestTrade (wsV RX1 78 RX1 yX1_seenByTrade wsX1_seenByTrade) := goodIn_app (goodIn_of _ (by decide +kernel)) ggX1_bestTrade_X1_seenByTrade
theorem dX1_bestTrade_0 : decode cX1_bestTrade 0 = .ok (.ldc 33, 2) := by decide +kernel
theorem dX1_bestTrade_2 : decode cX1_bestTrade 2 = .ok (.istore 4, 2) := by decide +kernel
theorem dX1_bestTrade_4 : decode cX1_bestTrade 4 = .ok (.aload_n 0, 1) := by decide +kernel
theorem dX1_bestTrade_5 : decode cX1_bestTrade 5 = .ok (.ldc 33, 2) := by decide +kernel
theorem dX1_bestTrade_7 : decode cX1_bestTrade 7 = .ok (.putfield 71, 3) := by decide +kernel
theorem dX1_bestTrade_10 : decode cX1_bestTrade 10 = .ok (.iconst 0, 1) := by decide +kernel
theorem dX1_bestTrade_11 : decode cX1_bestTrade 11 = .ok (.istore 5, 2) := by decide +kernel
theorem dX1_bestTrade_13 : decode cX1_bestTrade 13 = .ok (.iload 5, 2) := by decide +kernel
theorem dX1_bestTrade_15 : decode cX1_bestTrade 15 = .ok (.aload_n 1, 1) := by decide +kernel
theorem dX1_bestTrade_16 : decode cX1_bestTrade 16 = .ok (.getfield 75, 3) := by decide +kernel
theorem dX1_bestTrade_19 : decode cX1_bestTrade 19 = .ok (.if_icmp .ge 68, 3) := by decide +kernel
theorem dX1_bestTrade_22 : decode cX1_bestTrade 22 = .ok (.iload 5, 2) := by decide +kernel
theorem dX1_bestTrade_24 : decode cX1_bestTrade 24 = .ok (.iconst 1, 1) := by decide +kernel
theorem dX1_bestTrade_25 : decode cX1_bestTrade 25 = .ok (.iadd, 1) := by decide +kernel
theorem dX1_bestTrade_26 : decode cX1_bestTrade 26 = .ok (.istore 6, 2) := by decide +kernel
theorem dX1_bestTrade_28 : decode cX1_bestTrade 28 = .ok (.iload 6, 2) := by decide +kernel
theorem dX1_bestTrade_30 : decode cX1_bestTrade 30 = .ok (.aload_n 1, 1) := by decide +kernel
theorem dX1_bestTrade_31 : decode cX1_bestTrade 31 = .ok (.getfield 75, 3) := by decide +kernel
theorem dX1_bestTrade_34 : decode cX1_bestTrade 34 = .ok (.if_icmp .ge 47, 3) := by decide +kernel
theorem dX1_bestTrade_37 : decode cX1_bestTrade 37 = .ok (.aload_n 0, 1) := by decide +kernel
theorem dX1_bestTrade_38 : decode cX1_bestTrade 38 = .ok (.aload_n 1, 1) := by decide +kernel
theorem dX1_bestTrade_39 : decode cX1_bestTrade 39 = .ok (.iload_n 2, 1) := by decide +kernel
theorem dX1_bestTrade_40 : decode cX1_bestTrade 40 = .ok (.iload_n 3, 1) := by decide +kernel
theorem dX1_bestTrade_41 : decode cX1_bestTrade 41 = .ok (.iload 5, 2) := by decide +kernel
theorem dX1_bestTrade_43 : decode cX1_bestTrade 43 = .ok (.iload 6, 2) := by decide +kernel
theorem dX1_bestTrade_45 : decode cX1_bestTrade 45 = .ok (.invokevirtual 78, 3) := by decide +kernel
theorem dX1_bestTrade_48 : decode cX1_bestTrade 48 = .ok (.istore 7, 2) := by decide +kernel
theorem dX1_bestTrade_50 : decode cX1_bestTrade 50 = .ok (.iload 7, 2) := by decide +kernel
theorem dX1_bestTrade_52 : decode cX1_bestTrade 52 = .ok (.aload_n 0, 1) := by decide +kernel
theorem dX1_bestTrade_53 : decode cX1_bestTrade 53 = .ok (.getfield 71, 3) := by decide +kernel
theorem dX1_bestTrade_56 : decode cX1_bestTrade 56 = .ok (.if_icmp .le 19, 3) := by decide +kernel
theorem dX1_bestTrade_59 : decode cX1_bestTrade 59 = .ok (.aload_n 0, 1) := by decide +kernel
theorem dX1_bestTrade_60 : decode cX1_bestTrade 60 = .ok (.iload 7, 2) := by decide +kernel
theorem dX1_bestTrade_62 : decode cX1_bestTrade 62 = .ok (.putfield 71, 3) := by decide +kernel
theorem dX1_bestTrade_65 : decode cX1_bestTrade 65 = .ok (.bipush 10, 2) := by decide +kernel
theorem dX1_bestTrade_67 : decode cX1_bestTrade 67 = .ok (.iload 5, 2) := by decide +kernel
theorem dX1_bestTrade_69 : decode cX1_bestTrade 69 = .ok (.imul, 1) := by decide +kernel
theorem dX1_bestTrade_70 : decode cX1_bestTrade 70 = .ok (.iload 6, 2) := by decide +kernel
theorem dX1_bestTrade_72 : decode cX1_bestTrade 72 = .ok (.iadd, 1) := by decide +kernel
theorem dX1_bestTrade_73 : decode cX1_bestTrade 73 = .ok (.istore 4, 2) := by decide +kernel
theorem dX1_bestTrade_75 : decode cX1_bestTrade 75 = .ok (.iinc 6 1, 3) := by decide +kernel
theorem dX1_bestTrade_78 : decode cX1_bestTrade 78 = .ok (.goto (-50), 3) := by decide +kernel
theorem dX1_bestTrade_81 : decode cX1_bestTrade 81 = .ok (.iinc 5 1, 3) := by decide +kernel
theorem dX1_bestTrade_84 : decode cX1_bestTrade 84 = .ok (.goto (-71), 3) := by decide +kernel
theorem dX1_bestTrade_87 : decode cX1_bestTrade 87 = .ok (.iload 4, 2) := by decide +kernel
theorem dX1_bestTrade_89 : decode cX1_bestTrade 89 = .ok (.ireturn, 1) := by decide +kernel
set_option maxRecDepth 20000 in
theorem ggX1_seenByTrade_X4_take : GoodIn wsX1_seenByTrade wsX4_take := goodIn_r _ [6, 7, 8, 9, 10, 11, 12, 13, 14, 15, 16, 17, 18, 19, 20, 79, 80, 81, 82, 83, 84, 85, 86, 87, 88] (by decide +kernel) (by decide +kernel)
set_option maxRecDepth 20000 in
theorem gX1_seenByTrade_X4_take : GoodIn wsX1_seenByTrade (wsV RX1 18 RX4 yX4_take wsX4_take) := goodIn_app (goodIn_of _ (by decide +kernel)) ggX1_seenByTrade_X4_take
set_option maxRecDepth 20000 in
theorem ggX1_seenByTrade_X4_changeDays : GoodIn wsX1_seenByTrade wsX4_changeDays := goodIn_r _ [24, 12, 79, 80, 81, 82, 83, 84, 85, 86, 87, 88] (by decide +kernel) (by decide +kernel)
set_option maxRecDepth 20000 in
theorem gX1_seenByTrade_X4_changeDays : GoodIn wsX1_seenByTrade (wsV RX1 82 RX4 yX4_changeDays wsX4_changeDays) := goodIn_app (goodIn_of _ (by decide +kernel)) ggX1_seenByTrade_X4_changeDays
set_option maxRecDepth 20000 in
theorem ggX1_seenByTrade_X1_turnTrial : GoodIn wsX1_seenByTrade wsX1_turnTrial := goodIn_r _ [29, 1, 30, 31, 32, 5, 33, 20, 34, 35, 36, 37, 17, 19, 38, 39, 40, 41, 16, 42, 43, 44, 45, 46, 47, 48, 49, 12, 14, 7, 50, 51, 52, 53, 18, 15, 54, 55, 56, 57, 58, 59, 60, 61, 13, 62, 63, 64, 65, 66, 67, 68, 69, 77, 78, 79, 80, 81, 82, 83, 84, 85, 86, 87, 88] (by decide +kernel) (by decide +kernel)
set_option maxRecDepth 20000 in
theorem gX1_seenByTrade_X1_turnTrial : GoodIn wsX1_seenByTrade (wsV RX1 22 RX1 yX1_turnTrial wsX1_turnTrial) := goodIn_app (goodIn_of _ (by decide +kernel)) ggX1_seenByTrade_X1_turnTrial
set_option maxRecDepth 20000 in
theorem ggX1_seenByTrade_J6_bitCount_0f7a4 : GoodIn wsX1_seenByTrade wsJ6_bitCount_0f7a4 := goodIn_r _ [73, 74, 75, 76] (by decide +kernel) (by decide +kernel)
set_option maxRecDepth 20000 in
theorem gX1_seenByTrade_J6_bitCount_0f7a4 : GoodIn wsX1_seenByTrade (va_wsS RX1 49 yJ6_bitCount_0f7a4 wsJ6_bitCount_0f7a4) := goodIn_app (goodIn_of _ (by decide +kernel)) ggX1_seenByTrade_J6_bitCount_0f7a4
theorem dX1_seenByTrade_0 : decode cX1_seenByTrade 0 = .ok (.aload_n 0, 1) := by decide +kernel
theorem dX1_seenByTrade_1 : decode cX1_seenByTrade 1 = .ok (.getfield 12, 3) := by decide +kernel
theorem dX1_seenByTrade_4 : decode cX1_seenByTrade 4 = .ok (.aload_n 1, 1) := by decide +kernel
theorem dX1_seenByTrade_5 : decode cX1_seenByTrade 5 = .ok (.invokevirtual 18, 3) := by decide +kernel
theorem dX1_seenByTrade_8 : decode cX1_seenByTrade 8 = .ok (.aload_n 0, 1) := by decide +kernel
theorem dX1_seenByTrade_9 : decode cX1_seenByTrade 9 = .ok (.getfield 12, 3) := by decide +kernel
theorem dX1_seenByTrade_12 : decode cX1_seenByTrade 12 = .ok (.iload 4, 2) := by decide +kernel
theorem dX1_seenByTrade_14 : decode cX1_seenByTrade 14 = .ok (.iload 5, 2) := by decide +kernel
theorem dX1_seenByTrade_16 : decode cX1_seenByTrade 16 = .ok (.invokevirtual 82, 3) := by decide +kernel
theorem dX1_seenByTrade_19 : decode cX1_seenByTrade 19 = .ok (.aload_n 0, 1) := by decide +kernel
theorem dX1_seenByTrade_20 : decode cX1_seenByTrade 20 = .ok (.iload_n 3, 1) := by decide +kernel
theorem dX1_seenByTrade_21 : decode cX1_seenByTrade 21 = .ok (.invokevirtual 22, 3) := by decide +kernel
theorem dX1_seenByTrade_24 : decode cX1_seenByTrade 24 = .ok (.aload_n 0, 1) := by decide +kernel
theorem dX1_seenByTrade_25 : decode cX1_seenByTrade 25 = .ok (.getfield 12, 3) := by decide +kernel
theorem dX1_seenByTrade_28 : decode cX1_seenByTrade 28 = .ok (.getfield 29, 3) := by decide +kernel
theorem dX1_seenByTrade_31 : decode cX1_seenByTrade 31 = .ok (.iload_n 2, 1) := by decide +kernel
theorem dX1_seenByTrade_32 : decode cX1_seenByTrade 32 = .ok (.iaload, 1) := by decide +kernel
theorem dX1_seenByTrade_33 : decode cX1_seenByTrade 33 = .ok (.invokestatic 49, 3) := by decide +kernel
theorem dX1_seenByTrade_36 : decode cX1_seenByTrade 36 = .ok (.ireturn, 1) := by decide +kernel
set_option maxRecDepth 20000 in
theorem ggX1_fitting_X4_take : GoodIn wsX1_fitting wsX4_take := goodIn_r _ [6, 7, 8, 9, 10, 11, 12, 13, 14, 15, 16, 17, 18, 19, 20, 72, 73, 74, 75, 76, 77, 78, 79, 80, 81] (by decide +kernel) (by decide +kernel)
set_option maxRecDepth 20000 in
theorem gX1_fitting_X4_take : GoodIn wsX1_fitting (wsV RX1 18 RX4 yX4_take wsX4_take) := goodIn_app (goodIn_of _ (by decide +kernel)) ggX1_fitting_X4_take
set_option maxRecDepth 20000 in
theorem ggX1_fitting_X1_suppose : GoodIn wsX1_fitting wsX1_suppose := goodIn_r _ [25, 1, 70, 71, 72, 73, 74, 75, 76, 77, 78, 79, 80, 81] (by decide +kernel) (by decide +kernel)
set_option maxRecDepth 20000 in
theorem gX1_fitting_X1_suppose : GoodIn wsX1_fitting (wsV RX1 86 RX1 yX1_suppose wsX1_suppose) := goodIn_app (goodIn_of _ (by decide +kernel)) ggX1_fitting_X1_suppose
set_option maxRecDepth 20000 in
theorem ggX1_fitting_X1_isAsTold : GoodIn wsX1_fitting wsX1_isAsTold := goodIn_r _ [29, 1, 30, 31, 32, 5, 33, 16, 34, 35, 36, 37, 7, 38, 39, 40, 41, 42, 43, 44, 45, 20, 46, 47, 48, 49, 17, 19, 50, 51, 52, 53, 54, 55, 56, 57, 12, 14, 58, 59, 60, 61, 62, 63, 64, 65, 66, 67, 68, 69, 70, 71, 72, 73, 74, 75, 76, 77, 78, 79, 80, 81] (by decide +kernel) (by decide +kernel)
set_option maxRecDepth 20000 in
theorem gX1_fitting_X1_isAsTold : GoodIn wsX1_fitting (wsV RX1 90 RX1 yX1_isAsTold wsX1_isAsTold) := goodIn_app (goodIn_of _ (by decide +kernel)) ggX1_fitting_X1_isAsTold
theorem dX1_fitting_0 : decode cX1_fitting 0 = .ok (.iload 6, 2) := by decide +kernel
theorem dX1_fitting_2 : decode cX1_fitting 2 = .ok (.iconst 3, 1) := by decide +kernel
theorem dX1_fitting_3 : decode cX1_fitting 3 = .ok (.if_icmp .ne 7, 3) := by decide +kernel
theorem dX1_fitting_6 : decode cX1_fitting 6 = .ok (.iconst 2, 1) := by decide +kernel
theorem dX1_fitting_7 : decode cX1_fitting 7 = .ok (.goto 14, 3) := by decide +kernel
theorem dX1_fitting_10 : decode cX1_fitting 10 = .ok (.iload 6, 2) := by decide +kernel
theorem dX1_fitting_12 : decode cX1_fitting 12 = .ok (.iconst 2, 1) := by decide +kernel
theorem dX1_fitting_13 : decode cX1_fitting 13 = .ok (.if_icmp .ne 7, 3) := by decide +kernel
theorem dX1_fitting_16 : decode cX1_fitting 16 = .ok (.iconst 0, 1) := by decide +kernel
theorem dX1_fitting_17 : decode cX1_fitting 17 = .ok (.goto 4, 3) := by decide +kernel
theorem dX1_fitting_20 : decode cX1_fitting 20 = .ok (.iconst 1, 1) := by decide +kernel
theorem dX1_fitting_21 : decode cX1_fitting 21 = .ok (.istore 7, 2) := by decide +kernel
theorem dX1_fitting_23 : decode cX1_fitting 23 = .ok (.iload 6, 2) := by decide +kernel
theorem dX1_fitting_25 : decode cX1_fitting 25 = .ok (.iconst 3, 1) := by decide +kernel
theorem dX1_fitting_26 : decode cX1_fitting 26 = .ok (.if_icmp .ne 8, 3) := by decide +kernel
theorem dX1_fitting_29 : decode cX1_fitting 29 = .ok (.bipush 24, 2) := by decide +kernel
theorem dX1_fitting_31 : decode cX1_fitting 31 = .ok (.goto 26, 3) := by decide +kernel
theorem dX1_fitting_34 : decode cX1_fitting 34 = .ok (.iload 6, 2) := by decide +kernel
theorem dX1_fitting_36 : decode cX1_fitting 36 = .ok (.iconst 2, 1) := by decide +kernel
theorem dX1_fitting_37 : decode cX1_fitting 37 = .ok (.if_icmp .ne 8, 3) := by decide +kernel
theorem dX1_fitting_40 : decode cX1_fitting 40 = .ok (.bipush 9, 2) := by decide +kernel
theorem dX1_fitting_42 : decode cX1_fitting 42 = .ok (.goto 15, 3) := by decide +kernel
theorem dX1_fitting_45 : decode cX1_fitting 45 = .ok (.iload 6, 2) := by decide +kernel
theorem dX1_fitting_47 : decode cX1_fitting 47 = .ok (.iconst 1, 1) := by decide +kernel
theorem dX1_fitting_48 : decode cX1_fitting 48 = .ok (.if_icmp .ne 8, 3) := by decide +kernel
theorem dX1_fitting_51 : decode cX1_fitting 51 = .ok (.bipush 24, 2) := by decide +kernel
theorem dX1_fitting_53 : decode cX1_fitting 53 = .ok (.goto 4, 3) := by decide +kernel
theorem dX1_fitting_56 : decode cX1_fitting 56 = .ok (.iconst 5, 1) := by decide +kernel
theorem dX1_fitting_57 : decode cX1_fitting 57 = .ok (.istore 8, 2) := by decide +kernel
theorem dX1_fitting_59 : decode cX1_fitting 59 = .ok (.iconst 0, 1) := by decide +kernel
theorem dX1_fitting_60 : decode cX1_fitting 60 = .ok (.istore 9, 2) := by decide +kernel
theorem dX1_fitting_62 : decode cX1_fitting 62 = .ok (.iload 7, 2) := by decide +kernel
theorem dX1_fitting_64 : decode cX1_fitting 64 = .ok (.istore 10, 2) := by decide +kernel
theorem dX1_fitting_66 : decode cX1_fitting 66 = .ok (.iload 10, 2) := by decide +kernel
theorem dX1_fitting_68 : decode cX1_fitting 68 = .ok (.iload 8, 2) := by decide +kernel
theorem dX1_fitting_70 : decode cX1_fitting 70 = .ok (.if_icmp .gt 48, 3) := by decide +kernel
theorem dX1_fitting_73 : decode cX1_fitting 73 = .ok (.aload_n 0, 1) := by decide +kernel
theorem dX1_fitting_74 : decode cX1_fitting 74 = .ok (.getfield 12, 3) := by decide +kernel
theorem dX1_fitting_77 : decode cX1_fitting 77 = .ok (.aload_n 1, 1) := by decide +kernel
theorem dX1_fitting_78 : decode cX1_fitting 78 = .ok (.invokevirtual 18, 3) := by decide +kernel
theorem dX1_fitting_81 : decode cX1_fitting 81 = .ok (.aload_n 0, 1) := by decide +kernel
theorem dX1_fitting_82 : decode cX1_fitting 82 = .ok (.iload_n 2, 1) := by decide +kernel
theorem dX1_fitting_83 : decode cX1_fitting 83 = .ok (.iload 6, 2) := by decide +kernel
theorem dX1_fitting_85 : decode cX1_fitting 85 = .ok (.iload 10, 2) := by decide +kernel
theorem dX1_fitting_87 : decode cX1_fitting 87 = .ok (.invokevirtual 86, 3) := by decide +kernel
theorem dX1_fitting_90 : decode cX1_fitting 90 = .ok (.aload_n 0, 1) := by decide +kernel
theorem dX1_fitting_91 : decode cX1_fitting 91 = .ok (.iload_n 2, 1) := by decide +kernel
theorem dX1_fitting_92 : decode cX1_fitting 92 = .ok (.aload_n 3, 1) := by decide +kernel
theorem dX1_fitting_93 : decode cX1_fitting 93 = .ok (.iload 4, 2) := by decide +kernel
theorem dX1_fitting_95 : decode cX1_fitting 95 = .ok (.iload 5, 2) := by decide +kernel
theorem dX1_fitting_97 : decode cX1_fitting 97 = .ok (.invokevirtual 90, 3) := by decide +kernel
theorem dX1_fitting_100 : decode cX1_fitting 100 = .ok (.ifCond .eq 12, 3) := by decide +kernel
theorem dX1_fitting_103 : decode cX1_fitting 103 = .ok (.iload 9, 2) := by decide +kernel
theorem dX1_fitting_105 : decode cX1_fitting 105 = .ok (.iconst 1, 1) := by decide +kernel
theorem dX1_fitting_106 : decode cX1_fitting 106 = .ok (.iload 10, 2) := by decide +kernel
theorem dX1_fitting_108 : decode cX1_fitting 108 = .ok (.ishl, 1) := by decide +kernel
theorem dX1_fitting_109 : decode cX1_fitting 109 = .ok (.ior, 1) := by decide +kernel
theorem dX1_fitting_110 : decode cX1_fitting 110 = .ok (.istore 9, 2) := by decide +kernel
theorem dX1_fitting_112 : decode cX1_fitting 112 = .ok (.iinc 10 1, 3) := by decide +kernel
theorem dX1_fitting_115 : decode cX1_fitting 115 = .ok (.goto (-49), 3) := by decide +kernel
theorem dX1_fitting_118 : decode cX1_fitting 118 = .ok (.iload 9, 2) := by decide +kernel
theorem dX1_fitting_120 : decode cX1_fitting 120 = .ok (.ireturn, 1) := by decide +kernel
theorem dX1_suppose_0 : decode cX1_suppose 0 = .ok (.iload_n 2, 1) := by decide +kernel
theorem dX1_suppose_1 : decode cX1_suppose 1 = .ok (.ifCond .ne 16, 3) := by decide +kernel
theorem dX1_suppose_4 : decode cX1_suppose 4 = .ok (.aload_n 0, 1) := by decide +kernel
theorem dX1_suppose_5 : decode cX1_suppose 5 = .ok (.getfield 12, 3) := by decide +kernel
theorem dX1_suppose_8 : decode cX1_suppose 8 = .ok (.getfield 94, 3) := by decide +kernel
theorem dX1_suppose_11 : decode cX1_suppose 11 = .ok (.iload_n 1, 1) := by decide +kernel
theorem dX1_suppose_12 : decode cX1_suppose 12 = .ok (.iload_n 3, 1) := by decide +kernel
theorem dX1_suppose_13 : decode cX1_suppose 13 = .ok (.iastore, 1) := by decide +kernel
theorem dX1_suppose_14 : decode cX1_suppose 14 = .ok (.goto 47, 3) := by decide +kernel
theorem dX1_suppose_17 : decode cX1_suppose 17 = .ok (.iload_n 2, 1) := by decide +kernel
theorem dX1_suppose_18 : decode cX1_suppose 18 = .ok (.iconst 1, 1) := by decide +kernel
theorem dX1_suppose_19 : decode cX1_suppose 19 = .ok (.if_icmp .ne 16, 3) := by decide +kernel
theorem dX1_suppose_22 : decode cX1_suppose 22 = .ok (.aload_n 0, 1) := by decide +kernel
theorem dX1_suppose_23 : decode cX1_suppose 23 = .ok (.getfield 12, 3) := by decide +kernel
theorem dX1_suppose_26 : decode cX1_suppose 26 = .ok (.getfield 97, 3) := by decide +kernel
theorem dX1_suppose_29 : decode cX1_suppose 29 = .ok (.iload_n 1, 1) := by decide +kernel
theorem dX1_suppose_30 : decode cX1_suppose 30 = .ok (.iload_n 3, 1) := by decide +kernel
theorem dX1_suppose_31 : decode cX1_suppose 31 = .ok (.iastore, 1) := by decide +kernel
theorem dX1_suppose_32 : decode cX1_suppose 32 = .ok (.goto 29, 3) := by decide +kernel
theorem dX1_suppose_35 : decode cX1_suppose 35 = .ok (.iload_n 2, 1) := by decide +kernel
theorem dX1_suppose_36 : decode cX1_suppose 36 = .ok (.iconst 2, 1) := by decide +kernel
theorem dX1_suppose_37 : decode cX1_suppose 37 = .ok (.if_icmp .ne 16, 3) := by decide +kernel
theorem dX1_suppose_40 : decode cX1_suppose 40 = .ok (.aload_n 0, 1) := by decide +kernel
theorem dX1_suppose_41 : decode cX1_suppose 41 = .ok (.getfield 12, 3) := by decide +kernel
theorem dX1_suppose_44 : decode cX1_suppose 44 = .ok (.getfield 100, 3) := by decide +kernel
theorem dX1_suppose_47 : decode cX1_suppose 47 = .ok (.iload_n 1, 1) := by decide +kernel
theorem dX1_suppose_48 : decode cX1_suppose 48 = .ok (.iload_n 3, 1) := by decide +kernel
theorem dX1_suppose_49 : decode cX1_suppose 49 = .ok (.iastore, 1) := by decide +kernel
theorem dX1_suppose_50 : decode cX1_suppose 50 = .ok (.goto 11, 3) := by decide +kernel
theorem dX1_suppose_53 : decode cX1_suppose 53 = .ok (.aload_n 0, 1) := by decide +kernel
theorem dX1_suppose_54 : decode cX1_suppose 54 = .ok (.getfield 12, 3) := by decide +kernel
theorem dX1_suppose_57 : decode cX1_suppose 57 = .ok (.iload_n 3, 1) := by decide +kernel
theorem dX1_suppose_58 : decode cX1_suppose 58 = .ok (.putfield 103, 3) := by decide +kernel
theorem dX1_suppose_61 : decode cX1_suppose 61 = .ok (.return_, 1) := by decide +kernel
set_option maxRecDepth 20000 in
theorem ggX1_isAsTold_X4_touching : GoodIn wsX1_isAsTold wsX4_touching := goodIn_r _ [6, 7, 8, 9, 10, 5, 11, 12, 13, 14, 15, 16, 52, 53, 54, 55, 56, 57, 58, 59, 60, 61] (by decide +kernel) (by decide +kernel)
set_option maxRecDepth 20000 in
theorem gX1_isAsTold_X4_touching : GoodIn wsX1_isAsTold (wsV RX1 42 RX4 yX4_touching wsX4_touching) := goodIn_app (goodIn_of _ (by decide +kernel)) ggX1_isAsTold_X4_touching
set_option maxRecDepth 20000 in
theorem ggX1_isAsTold_X4_turnUnseen : GoodIn wsX1_isAsTold wsX4_turnUnseen := goodIn_r _ [20, 21, 22, 23, 24, 5, 25, 26, 27, 28, 29, 30, 31, 7, 32, 33, 34, 35, 36, 37, 12, 38, 39, 40, 41, 42, 43, 44, 45, 52, 53, 54, 55, 56, 57, 58, 59, 60, 61] (by decide +kernel) (by decide +kernel)
set_option maxRecDepth 20000 in
theorem gX1_isAsTold_X4_turnUnseen : GoodIn wsX1_isAsTold (wsV RX1 68 RX4 yX4_turnUnseen wsX4_turnUnseen) := goodIn_app (goodIn_of _ (by decide +kernel)) ggX1_isAsTold_X4_turnUnseen
set_option maxRecDepth 20000 in
theorem ggX1_isAsTold_X4_isOpen : GoodIn wsX1_isAsTold wsX4_isOpen := goodIn_r _ [49, 21, 52, 53, 54, 55, 56, 57, 58, 59, 60, 61] (by decide +kernel) (by decide +kernel)
set_option maxRecDepth 20000 in
theorem gX1_isAsTold_X4_isOpen : GoodIn wsX1_isAsTold (wsV RX1 38 RX4 yX4_isOpen wsX4_isOpen) := goodIn_app (goodIn_of _ (by decide +kernel)) ggX1_isAsTold_X4_isOpen
theorem dX1_isAsTold_0 : decode cX1_isAsTold 0 = .ok (.aload_n 0, 1) := by decide +kernel
theorem dX1_isAsTold_1 : decode cX1_isAsTold 1 = .ok (.getfield 12, 3) := by decide +kernel
theorem dX1_isAsTold_4 : decode cX1_isAsTold 4 = .ok (.iload_n 1, 1) := by decide +kernel
theorem dX1_isAsTold_5 : decode cX1_isAsTold 5 = .ok (.invokevirtual 42, 3) := by decide +kernel
theorem dX1_isAsTold_8 : decode cX1_isAsTold 8 = .ok (.istore 5, 2) := by decide +kernel
theorem dX1_isAsTold_10 : decode cX1_isAsTold 10 = .ok (.iconst 0, 1) := by decide +kernel
theorem dX1_isAsTold_11 : decode cX1_isAsTold 11 = .ok (.istore 6, 2) := by decide +kernel
theorem dX1_isAsTold_13 : decode cX1_isAsTold 13 = .ok (.iload 6, 2) := by decide +kernel
theorem dX1_isAsTold_15 : decode cX1_isAsTold 15 = .ok (.iload 4, 2) := by decide +kernel
theorem dX1_isAsTold_17 : decode cX1_isAsTold 17 = .ok (.if_icmp .ge 45, 3) := by decide +kernel
theorem dX1_isAsTold_20 : decode cX1_isAsTold 20 = .ok (.aload_n 0, 1) := by decide +kernel
theorem dX1_isAsTold_21 : decode cX1_isAsTold 21 = .ok (.getfield 12, 3) := by decide +kernel
theorem dX1_isAsTold_24 : decode cX1_isAsTold 24 = .ok (.iload 5, 2) := by decide +kernel
theorem dX1_isAsTold_26 : decode cX1_isAsTold 26 = .ok (.invokevirtual 68, 3) := by decide +kernel
theorem dX1_isAsTold_29 : decode cX1_isAsTold 29 = .ok (.aload_n 2, 1) := by decide +kernel
theorem dX1_isAsTold_30 : decode cX1_isAsTold 30 = .ok (.iload_n 3, 1) := by decide +kernel
theorem dX1_isAsTold_31 : decode cX1_isAsTold 31 = .ok (.iload 6, 2) := by decide +kernel
theorem dX1_isAsTold_33 : decode cX1_isAsTold 33 = .ok (.iadd, 1) := by decide +kernel
theorem dX1_isAsTold_34 : decode cX1_isAsTold 34 = .ok (.iaload, 1) := by decide +kernel
theorem dX1_isAsTold_35 : decode cX1_isAsTold 35 = .ok (.aload_n 0, 1) := by decide +kernel
theorem dX1_isAsTold_36 : decode cX1_isAsTold 36 = .ok (.getfield 12, 3) := by decide +kernel
theorem dX1_isAsTold_39 : decode cX1_isAsTold 39 = .ok (.iload_n 1, 1) := by decide +kernel
theorem dX1_isAsTold_40 : decode cX1_isAsTold 40 = .ok (.invokevirtual 38, 3) := by decide +kernel
theorem dX1_isAsTold_43 : decode cX1_isAsTold 43 = .ok (.ifCond .eq 7, 3) := by decide +kernel
theorem dX1_isAsTold_46 : decode cX1_isAsTold 46 = .ok (.iconst 1, 1) := by decide +kernel
theorem dX1_isAsTold_47 : decode cX1_isAsTold 47 = .ok (.goto 4, 3) := by decide +kernel
theorem dX1_isAsTold_50 : decode cX1_isAsTold 50 = .ok (.iconst 0, 1) := by decide +kernel
theorem dX1_isAsTold_51 : decode cX1_isAsTold 51 = .ok (.if_icmp .eq 5, 3) := by decide +kernel
theorem dX1_isAsTold_54 : decode cX1_isAsTold 54 = .ok (.iconst 0, 1) := by decide +kernel
theorem dX1_isAsTold_55 : decode cX1_isAsTold 55 = .ok (.ireturn, 1) := by decide +kernel
theorem dX1_isAsTold_56 : decode cX1_isAsTold 56 = .ok (.iinc 6 1, 3) := by decide +kernel
theorem dX1_isAsTold_59 : decode cX1_isAsTold 59 = .ok (.goto (-46), 3) := by decide +kernel
theorem dX1_isAsTold_62 : decode cX1_isAsTold 62 = .ok (.iconst 1, 1) := by decide +kernel
theorem dX1_isAsTold_63 : decode cX1_isAsTold 63 = .ok (.ireturn, 1) := by decide +kernel
set_option maxRecDepth 20000 in
theorem ggX1_windyWays_X4_shutOnes : GoodIn wsX1_windyWays wsX4_shutOnes := goodIn_r _ [5, 6, 7, 8, 9, 4, 10, 11, 72, 73, 74, 75, 76, 77, 78, 79, 80, 81] (by decide +kernel) (by decide +kernel)
set_option maxRecDepth 20000 in
theorem gX1_windyWays_X4_shutOnes : GoodIn wsX1_windyWays (wsV RX1 106 RX4 yX4_shutOnes wsX4_shutOnes) := goodIn_app (goodIn_of _ (by decide +kernel)) ggX1_windyWays_X4_shutOnes
set_option maxRecDepth 20000 in
theorem ggX1_windyWays_J6_bitCount_0f7a4 : GoodIn wsX1_windyWays wsJ6_bitCount_0f7a4 := goodIn_r _ [15, 16, 17, 18] (by decide +kernel) (by decide +kernel)
set_option maxRecDepth 20000 in
theorem gX1_windyWays_J6_bitCount_0f7a4 : GoodIn wsX1_windyWays (va_wsS RX1 49 yJ6_bitCount_0f7a4 wsJ6_bitCount_0f7a4) := goodIn_app (goodIn_of _ (by decide +kernel)) ggX1_windyWays_J6_bitCount_0f7a4
set_option maxRecDepth 20000 in
theorem ggX1_windyWays_X7_power : GoodIn wsX1_windyWays wsX7_power := goodIn_r _ [21] (by decide +kernel) (by decide +kernel)
set_option maxRecDepth 20000 in
theorem gX1_windyWays_X7_power_n109 : GoodIn wsX1_windyWays (wsX7_power) := ggX1_windyWays_X7_power
set_option maxRecDepth 20000 in
theorem ggX1_windyWays_X1_isOpenBehind : GoodIn wsX1_windyWays wsX1_isOpenBehind := goodIn_r _ [26, 27, 28, 29, 30, 4, 31, 32, 33, 34, 35, 36, 37, 38, 39, 40, 11, 41, 42, 43, 6, 44, 45, 46, 47, 48, 49, 50, 51, 52, 53, 54, 55, 56, 57, 58, 59, 60, 61, 62, 63, 64, 65, 66, 67, 68, 69, 70, 71, 82, 83, 72, 73, 74, 75, 76, 77, 78, 79, 80, 81] (by decide +kernel) (by decide +kernel)
set_option maxRecDepth 20000 in
theorem gX1_windyWays_X1_isOpenBehind : GoodIn wsX1_windyWays (wsV RX1 113 RX1 yX1_isOpenBehind wsX1_isOpenBehind) := goodIn_app (goodIn_of _ (by decide +kernel)) ggX1_windyWays_X1_isOpenBehind
theorem dX1_windyWays_0 : decode cX1_windyWays 0 = .ok (.iload 5, 2) := by decide +kernel
theorem dX1_windyWays_2 : decode cX1_windyWays 2 = .ok (.aload_n 1, 1) := by decide +kernel
theorem dX1_windyWays_3 : decode cX1_windyWays 3 = .ok (.invokevirtual 106, 3) := by decide +kernel
theorem dX1_windyWays_6 : decode cX1_windyWays 6 = .ok (.iand, 1) := by decide +kernel
theorem dX1_windyWays_7 : decode cX1_windyWays 7 = .ok (.istore 6, 2) := by decide +kernel
theorem dX1_windyWays_9 : decode cX1_windyWays 9 = .ok (.iload 6, 2) := by decide +kernel
theorem dX1_windyWays_11 : decode cX1_windyWays 11 = .ok (.invokestatic 49, 3) := by decide +kernel
theorem dX1_windyWays_14 : decode cX1_windyWays 14 = .ok (.istore 7, 2) := by decide +kernel
theorem dX1_windyWays_16 : decode cX1_windyWays 16 = .ok (.lconst 0, 1) := by decide +kernel
theorem dX1_windyWays_17 : decode cX1_windyWays 17 = .ok (.lstore 8, 2) := by decide +kernel
theorem dX1_windyWays_19 : decode cX1_windyWays 19 = .ok (.iconst 0, 1) := by decide +kernel
theorem dX1_windyWays_20 : decode cX1_windyWays 20 = .ok (.istore 10, 2) := by decide +kernel
theorem dX1_windyWays_22 : decode cX1_windyWays 22 = .ok (.iload 10, 2) := by decide +kernel
theorem dX1_windyWays_24 : decode cX1_windyWays 24 = .ok (.iload 6, 2) := by decide +kernel
theorem dX1_windyWays_26 : decode cX1_windyWays 26 = .ok (.if_icmp .gt 80, 3) := by decide +kernel
theorem dX1_windyWays_29 : decode cX1_windyWays 29 = .ok (.iload 10, 2) := by decide +kernel
theorem dX1_windyWays_31 : decode cX1_windyWays 31 = .ok (.iload 6, 2) := by decide +kernel
theorem dX1_windyWays_33 : decode cX1_windyWays 33 = .ok (.iconst (-1), 1) := by decide +kernel
theorem dX1_windyWays_34 : decode cX1_windyWays 34 = .ok (.ixor, 1) := by decide +kernel
theorem dX1_windyWays_35 : decode cX1_windyWays 35 = .ok (.iand, 1) := by decide +kernel
theorem dX1_windyWays_36 : decode cX1_windyWays 36 = .ok (.ifCond .eq 6, 3) := by decide +kernel
theorem dX1_windyWays_39 : decode cX1_windyWays 39 = .ok (.goto 61, 3) := by decide +kernel
theorem dX1_windyWays_42 : decode cX1_windyWays 42 = .ok (.iload 10, 2) := by decide +kernel
theorem dX1_windyWays_44 : decode cX1_windyWays 44 = .ok (.invokestatic 49, 3) := by decide +kernel
theorem dX1_windyWays_47 : decode cX1_windyWays 47 = .ok (.istore 11, 2) := by decide +kernel
theorem dX1_windyWays_49 : decode cX1_windyWays 49 = .ok (.iload 4, 2) := by decide +kernel
theorem dX1_windyWays_51 : decode cX1_windyWays 51 = .ok (.iload 11, 2) := by decide +kernel
theorem dX1_windyWays_53 : decode cX1_windyWays 53 = .ok (.invokestatic 109, 3) := by decide +kernel
theorem dX1_windyWays_56 : decode cX1_windyWays 56 = .ok (.bipush 10, 2) := by decide +kernel
theorem dX1_windyWays_58 : decode cX1_windyWays 58 = .ok (.iload 4, 2) := by decide +kernel
theorem dX1_windyWays_60 : decode cX1_windyWays 60 = .ok (.isub, 1) := by decide +kernel
theorem dX1_windyWays_61 : decode cX1_windyWays 61 = .ok (.iload 7, 2) := by decide +kernel
theorem dX1_windyWays_63 : decode cX1_windyWays 63 = .ok (.iload 11, 2) := by decide +kernel
theorem dX1_windyWays_65 : decode cX1_windyWays 65 = .ok (.isub, 1) := by decide +kernel
theorem dX1_windyWays_66 : decode cX1_windyWays 66 = .ok (.invokestatic 109, 3) := by decide +kernel
theorem dX1_windyWays_69 : decode cX1_windyWays 69 = .ok (.lmul, 1) := by decide +kernel
theorem dX1_windyWays_70 : decode cX1_windyWays 70 = .ok (.lstore 12, 2) := by decide +kernel
theorem dX1_windyWays_72 : decode cX1_windyWays 72 = .ok (.lload 12, 2) := by decide +kernel
theorem dX1_windyWays_74 : decode cX1_windyWays 74 = .ok (.lconst 0, 1) := by decide +kernel
theorem dX1_windyWays_75 : decode cX1_windyWays 75 = .ok (.lcmp, 1) := by decide +kernel
theorem dX1_windyWays_76 : decode cX1_windyWays 76 = .ok (.ifCond .eq 24, 3) := by decide +kernel
theorem dX1_windyWays_79 : decode cX1_windyWays 79 = .ok (.aload_n 0, 1) := by decide +kernel
theorem dX1_windyWays_80 : decode cX1_windyWays 80 = .ok (.aload_n 1, 1) := by decide +kernel
theorem dX1_windyWays_81 : decode cX1_windyWays 81 = .ok (.iload_n 2, 1) := by decide +kernel
theorem dX1_windyWays_82 : decode cX1_windyWays 82 = .ok (.iload_n 3, 1) := by decide +kernel
theorem dX1_windyWays_83 : decode cX1_windyWays 83 = .ok (.iload 10, 2) := by decide +kernel
theorem dX1_windyWays_85 : decode cX1_windyWays 85 = .ok (.iload 5, 2) := by decide +kernel
theorem dX1_windyWays_87 : decode cX1_windyWays 87 = .ok (.invokevirtual 113, 3) := by decide +kernel
theorem dX1_windyWays_90 : decode cX1_windyWays 90 = .ok (.ifCond .eq 10, 3) := by decide +kernel
theorem dX1_windyWays_93 : decode cX1_windyWays 93 = .ok (.lload 8, 2) := by decide +kernel
theorem dX1_windyWays_95 : decode cX1_windyWays 95 = .ok (.lload 12, 2) := by decide +kernel
theorem dX1_windyWays_97 : decode cX1_windyWays 97 = .ok (.ladd, 1) := by decide +kernel
theorem dX1_windyWays_98 : decode cX1_windyWays 98 = .ok (.lstore 8, 2) := by decide +kernel
theorem dX1_windyWays_100 : decode cX1_windyWays 100 = .ok (.iinc 10 1, 3) := by decide +kernel
theorem dX1_windyWays_103 : decode cX1_windyWays 103 = .ok (.goto (-81), 3) := by decide +kernel
theorem dX1_windyWays_106 : decode cX1_windyWays 106 = .ok (.lload 8, 2) := by decide +kernel
theorem dX1_windyWays_108 : decode cX1_windyWays 108 = .ok (.lreturn, 1) := by decide +kernel
set_option maxRecDepth 20000 in
theorem ggX1_isOpenBehind_X4_take : GoodIn wsX1_isOpenBehind wsX4_take := goodIn_r _ [6, 7, 8, 9, 10, 11, 12, 13, 14, 15, 16, 17, 18, 19, 20, 51, 52, 53, 54, 55, 56, 57, 58, 59, 60] (by decide +kernel) (by decide +kernel)
set_option maxRecDepth 20000 in
theorem gX1_isOpenBehind_X4_take : GoodIn wsX1_isOpenBehind (wsV RX1 18 RX4 yX4_take wsX4_take) := goodIn_app (goodIn_of _ (by decide +kernel)) ggX1_isOpenBehind_X4_take
set_option maxRecDepth 20000 in
theorem ggX1_isOpenBehind_X4_turnUnseen : GoodIn wsX1_isOpenBehind wsX4_turnUnseen := goodIn_r _ [24, 20, 25, 26, 27, 5, 28, 17, 19, 29, 30, 31, 32, 16, 33, 34, 35, 36, 12, 14, 7, 37, 38, 39, 40, 41, 42, 43, 44, 51, 52, 53, 54, 55, 56, 57, 58, 59, 60] (by decide +kernel) (by decide +kernel)
set_option maxRecDepth 20000 in
theorem gX1_isOpenBehind_X4_turnUnseen : GoodIn wsX1_isOpenBehind (wsV RX1 68 RX4 yX4_turnUnseen wsX4_turnUnseen) := goodIn_app (goodIn_of _ (by decide +kernel)) ggX1_isOpenBehind_X4_turnUnseen
set_option maxRecDepth 20000 in
theorem ggX1_isOpenBehind_X4_isOpen : GoodIn wsX1_isOpenBehind wsX4_isOpen := goodIn_r _ [48, 20, 51, 52, 53, 54, 55, 56, 57, 58, 59, 60] (by decide +kernel) (by decide +kernel)
set_option maxRecDepth 20000 in
theorem gX1_isOpenBehind_X4_isOpen : GoodIn wsX1_isOpenBehind (wsV RX1 38 RX4 yX4_isOpen wsX4_isOpen) := goodIn_app (goodIn_of _ (by decide +kernel)) ggX1_isOpenBehind_X4_isOpen
theorem dX1_isOpenBehind_0 : decode cX1_isOpenBehind 0 = .ok (.aload_n 0, 1) := by decide +kernel
theorem dX1_isOpenBehind_1 : decode cX1_isOpenBehind 1 = .ok (.getfield 12, 3) := by decide +kernel
theorem dX1_isOpenBehind_4 : decode cX1_isOpenBehind 4 = .ok (.aload_n 1, 1) := by decide +kernel
theorem dX1_isOpenBehind_5 : decode cX1_isOpenBehind 5 = .ok (.invokevirtual 18, 3) := by decide +kernel
theorem dX1_isOpenBehind_8 : decode cX1_isOpenBehind 8 = .ok (.aload_n 0, 1) := by decide +kernel
theorem dX1_isOpenBehind_9 : decode cX1_isOpenBehind 9 = .ok (.getfield 12, 3) := by decide +kernel
theorem dX1_isOpenBehind_12 : decode cX1_isOpenBehind 12 = .ok (.dup, 1) := by decide +kernel
theorem dX1_isOpenBehind_13 : decode cX1_isOpenBehind 13 = .ok (.getfield 116, 3) := by decide +kernel
theorem dX1_isOpenBehind_16 : decode cX1_isOpenBehind 16 = .ok (.iload 4, 2) := by decide +kernel
theorem dX1_isOpenBehind_18 : decode cX1_isOpenBehind 18 = .ok (.ior, 1) := by decide +kernel
theorem dX1_isOpenBehind_19 : decode cX1_isOpenBehind 19 = .ok (.putfield 116, 3) := by decide +kernel
theorem dX1_isOpenBehind_22 : decode cX1_isOpenBehind 22 = .ok (.iconst 0, 1) := by decide +kernel
theorem dX1_isOpenBehind_23 : decode cX1_isOpenBehind 23 = .ok (.istore 6, 2) := by decide +kernel
theorem dX1_isOpenBehind_25 : decode cX1_isOpenBehind 25 = .ok (.iload 6, 2) := by decide +kernel
theorem dX1_isOpenBehind_27 : decode cX1_isOpenBehind 27 = .ok (.iload_n 3, 1) := by decide +kernel
theorem dX1_isOpenBehind_28 : decode cX1_isOpenBehind 28 = .ok (.if_icmp .ge 18, 3) := by decide +kernel
theorem dX1_isOpenBehind_31 : decode cX1_isOpenBehind 31 = .ok (.aload_n 0, 1) := by decide +kernel
theorem dX1_isOpenBehind_32 : decode cX1_isOpenBehind 32 = .ok (.getfield 12, 3) := by decide +kernel
theorem dX1_isOpenBehind_35 : decode cX1_isOpenBehind 35 = .ok (.iload 5, 2) := by decide +kernel
theorem dX1_isOpenBehind_37 : decode cX1_isOpenBehind 37 = .ok (.invokevirtual 68, 3) := by decide +kernel
theorem dX1_isOpenBehind_40 : decode cX1_isOpenBehind 40 = .ok (.iinc 6 1, 3) := by decide +kernel
theorem dX1_isOpenBehind_43 : decode cX1_isOpenBehind 43 = .ok (.goto (-18), 3) := by decide +kernel
theorem dX1_isOpenBehind_46 : decode cX1_isOpenBehind 46 = .ok (.aload_n 0, 1) := by decide +kernel
theorem dX1_isOpenBehind_47 : decode cX1_isOpenBehind 47 = .ok (.getfield 12, 3) := by decide +kernel
theorem dX1_isOpenBehind_50 : decode cX1_isOpenBehind 50 = .ok (.iload_n 2, 1) := by decide +kernel
theorem dX1_isOpenBehind_51 : decode cX1_isOpenBehind 51 = .ok (.invokevirtual 38, 3) := by decide +kernel
theorem dX1_isOpenBehind_54 : decode cX1_isOpenBehind 54 = .ok (.ireturn, 1) := by decide +kernel
set_option maxRecDepth 20000 in
theorem ggX1_years_X4_take : GoodIn wsX1_years wsX4_take := goodIn_r _ [8, 9, 10, 11, 12, 13, 14, 15, 16, 17, 18, 19, 20, 21, 22, 72, 73, 74, 75, 76, 77, 78, 79, 80, 81] (by decide +kernel) (by decide +kernel)
set_option maxRecDepth 20000 in
theorem gX1_years_X4_take : GoodIn wsX1_years (wsV RX1 18 RX4 yX4_take wsX4_take) := goodIn_app (goodIn_of _ (by decide +kernel)) ggX1_years_X4_take
set_option maxRecDepth 20000 in
theorem ggX1_years_X1_draw : GoodIn wsX1_years wsX1_draw := goodIn_r _ [27, 1, 28, 29, 70, 71, 72, 73, 74, 75, 76, 77, 78, 79, 80, 81] (by decide +kernel) (by decide +kernel)
set_option maxRecDepth 20000 in
theorem gX1_years_X1_draw : GoodIn wsX1_years (wsV RX1 123 RX1 yX1_draw wsX1_draw) := goodIn_app (goodIn_of _ (by decide +kernel)) ggX1_years_X1_draw
set_option maxRecDepth 20000 in
theorem ggX1_years_X4_turn : GoodIn wsX1_years wsX4_turn := goodIn_r _ [33, 22, 34, 35, 36, 7, 37, 19, 21, 38, 39, 40, 41, 18, 42, 43, 44, 45, 46, 47, 48, 49, 14, 16, 9, 50, 51, 52, 53, 20, 17, 54, 55, 56, 57, 58, 59, 60, 61, 15, 62, 63, 64, 65, 66, 67, 68, 69, 72, 73, 74, 75, 76, 77, 78, 79, 80, 81] (by decide +kernel) (by decide +kernel)
set_option maxRecDepth 20000 in
theorem gX1_years_X4_turn : GoodIn wsX1_years (wsV RX1 26 RX4 yX4_turn wsX4_turn) := goodIn_app (goodIn_of _ (by decide +kernel)) ggX1_years_X4_turn
theorem dX1_years_0 : decode cX1_years 0 = .ok (.aload_n 0, 1) := by decide +kernel
theorem dX1_years_1 : decode cX1_years 1 = .ok (.getfield 12, 3) := by decide +kernel
theorem dX1_years_4 : decode cX1_years 4 = .ok (.aload_n 1, 1) := by decide +kernel
theorem dX1_years_5 : decode cX1_years 5 = .ok (.invokevirtual 18, 3) := by decide +kernel
theorem dX1_years_8 : decode cX1_years 8 = .ok (.iload_n 3, 1) := by decide +kernel
theorem dX1_years_9 : decode cX1_years 9 = .ok (.i2l, 1) := by decide +kernel
theorem dX1_years_10 : decode cX1_years 10 = .ok (.lstore 4, 2) := by decide +kernel
theorem dX1_years_12 : decode cX1_years 12 = .ok (.iconst 0, 1) := by decide +kernel
theorem dX1_years_13 : decode cX1_years 13 = .ok (.istore 6, 2) := by decide +kernel
theorem dX1_years_15 : decode cX1_years 15 = .ok (.iload 6, 2) := by decide +kernel
theorem dX1_years_17 : decode cX1_years 17 = .ok (.iload_n 2, 1) := by decide +kernel
theorem dX1_years_18 : decode cX1_years 18 = .ok (.if_icmp .ge 34, 3) := by decide +kernel
theorem dX1_years_21 : decode cX1_years 21 = .ok (.lload 4, 2) := by decide +kernel
theorem dX1_years_23 : decode cX1_years 23 = .ok (.ldc2_w 119, 3) := by decide +kernel
theorem dX1_years_26 : decode cX1_years 26 = .ok (.lmul, 1) := by decide +kernel
theorem dX1_years_27 : decode cX1_years 27 = .ok (.ldc2_w 121, 3) := by decide +kernel
theorem dX1_years_30 : decode cX1_years 30 = .ok (.lrem, 1) := by decide +kernel
theorem dX1_years_31 : decode cX1_years 31 = .ok (.lstore 4, 2) := by decide +kernel
theorem dX1_years_33 : decode cX1_years 33 = .ok (.aload_n 0, 1) := by decide +kernel
theorem dX1_years_34 : decode cX1_years 34 = .ok (.lload 4, 2) := by decide +kernel
theorem dX1_years_36 : decode cX1_years 36 = .ok (.invokevirtual 123, 3) := by decide +kernel
theorem dX1_years_39 : decode cX1_years 39 = .ok (.aload_n 0, 1) := by decide +kernel
theorem dX1_years_40 : decode cX1_years 40 = .ok (.getfield 12, 3) := by decide +kernel
theorem dX1_years_43 : decode cX1_years 43 = .ok (.invokevirtual 26, 3) := by decide +kernel
theorem dX1_years_46 : decode cX1_years 46 = .ok (.iinc 6 1, 3) := by decide +kernel
theorem dX1_years_49 : decode cX1_years 49 = .ok (.goto (-34), 3) := by decide +kernel
theorem dX1_years_52 : decode cX1_years 52 = .ok (.aload_n 0, 1) := by decide +kernel
theorem dX1_years_53 : decode cX1_years 53 = .ok (.getfield 12, 3) := by decide +kernel
theorem dX1_years_56 : decode cX1_years 56 = .ok (.areturn, 1) := by decide +kernel
theorem dX1_draw_0 : decode cX1_draw 0 = .ok (.aload_n 0, 1) := by decide +kernel
theorem dX1_draw_1 : decode cX1_draw 1 = .ok (.getfield 12, 3) := by decide +kernel
theorem dX1_draw_4 : decode cX1_draw 4 = .ok (.getfield 75, 3) := by decide +kernel
theorem dX1_draw_7 : decode cX1_draw 7 = .ok (.ifCond .ne 4, 3) := by decide +kernel
theorem dX1_draw_10 : decode cX1_draw 10 = .ok (.return_, 1) := by decide +kernel
theorem dX1_draw_11 : decode cX1_draw 11 = .ok (.lload_n 1, 1) := by decide +kernel
theorem dX1_draw_12 : decode cX1_draw 12 = .ok (.aload_n 0, 1) := by decide +kernel
theorem dX1_draw_13 : decode cX1_draw 13 = .ok (.getfield 12, 3) := by decide +kernel
theorem dX1_draw_16 : decode cX1_draw 16 = .ok (.getfield 75, 3) := by decide +kernel
theorem dX1_draw_19 : decode cX1_draw 19 = .ok (.i2l, 1) := by decide +kernel
theorem dX1_draw_20 : decode cX1_draw 20 = .ok (.lrem, 1) := by decide +kernel
theorem dX1_draw_21 : decode cX1_draw 21 = .ok (.l2i, 1) := by decide +kernel
theorem dX1_draw_22 : decode cX1_draw 22 = .ok (.istore_n 3, 1) := by decide +kernel
theorem dX1_draw_23 : decode cX1_draw 23 = .ok (.lload_n 1, 1) := by decide +kernel
theorem dX1_draw_24 : decode cX1_draw 24 = .ok (.ldc2_w 127, 3) := by decide +kernel
theorem dX1_draw_27 : decode cX1_draw 27 = .ok (.lrem, 1) := by decide +kernel
theorem dX1_draw_28 : decode cX1_draw 28 = .ok (.lconst 0, 1) := by decide +kernel
theorem dX1_draw_29 : decode cX1_draw 29 = .ok (.lcmp, 1) := by decide +kernel
theorem dX1_draw_30 : decode cX1_draw 30 = .ok (.ifCond .ne 21, 3) := by decide +kernel
theorem dX1_draw_33 : decode cX1_draw 33 = .ok (.aload_n 0, 1) := by decide +kernel
theorem dX1_draw_34 : decode cX1_draw 34 = .ok (.getfield 12, 3) := by decide +kernel
theorem dX1_draw_37 : decode cX1_draw 37 = .ok (.dup, 1) := by decide +kernel
theorem dX1_draw_38 : decode cX1_draw 38 = .ok (.getfield 116, 3) := by decide +kernel
theorem dX1_draw_41 : decode cX1_draw 41 = .ok (.iconst 1, 1) := by decide +kernel
theorem dX1_draw_42 : decode cX1_draw 42 = .ok (.iload_n 3, 1) := by decide +kernel
theorem dX1_draw_43 : decode cX1_draw 43 = .ok (.ishl, 1) := by decide +kernel
theorem dX1_draw_44 : decode cX1_draw 44 = .ok (.ixor, 1) := by decide +kernel
theorem dX1_draw_45 : decode cX1_draw 45 = .ok (.putfield 116, 3) := by decide +kernel
theorem dX1_draw_48 : decode cX1_draw 48 = .ok (.goto 18, 3) := by decide +kernel
theorem dX1_draw_51 : decode cX1_draw 51 = .ok (.aload_n 0, 1) := by decide +kernel
theorem dX1_draw_52 : decode cX1_draw 52 = .ok (.getfield 12, 3) := by decide +kernel
theorem dX1_draw_55 : decode cX1_draw 55 = .ok (.getfield 100, 3) := by decide +kernel
theorem dX1_draw_58 : decode cX1_draw 58 = .ok (.iload_n 3, 1) := by decide +kernel
theorem dX1_draw_59 : decode cX1_draw 59 = .ok (.lload_n 1, 1) := by decide +kernel
theorem dX1_draw_60 : decode cX1_draw 60 = .ok (.ldc2_w 129, 3) := by decide +kernel
theorem dX1_draw_63 : decode cX1_draw 63 = .ok (.lrem, 1) := by decide +kernel
theorem dX1_draw_64 : decode cX1_draw 64 = .ok (.l2i, 1) := by decide +kernel
theorem dX1_draw_65 : decode cX1_draw 65 = .ok (.iastore, 1) := by decide +kernel
theorem dX1_draw_66 : decode cX1_draw 66 = .ok (.return_, 1) := by decide +kernel
