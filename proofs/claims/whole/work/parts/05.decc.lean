theorem dX7_way_30 : decode cX7_way 30 = .ok (.aload_n 0, 1) := by decide +kernel
theorem dX7_way_31 : decode cX7_way 31 = .ok (.iconst 1, 1) := by decide +kernel
theorem dX7_way_32 : decode cX7_way 32 = .ok (.invokevirtual 51, 3) := by decide +kernel
theorem dX7_way_35 : decode cX7_way 35 = .ok (.ireturn, 1) := by decide +kernel
theorem dX7_way_36 : decode cX7_way 36 = .ok (.aload_n 0, 1) := by decide +kernel
theorem dX7_way_37 : decode cX7_way 37 = .ok (.invokevirtual 141, 3) := by decide +kernel
theorem dX7_way_40 : decode cX7_way 40 = .ok (.aload_n 0, 1) := by decide +kernel
theorem dX7_way_41 : decode cX7_way 41 = .ok (.getfield 28, 3) := by decide +kernel
theorem dX7_way_44 : decode cX7_way 44 = .ok (.bipush 10, 2) := by decide +kernel
theorem dX7_way_46 : decode cX7_way 46 = .ok (.iload_n 1, 1) := by decide +kernel
theorem dX7_way_47 : decode cX7_way 47 = .ok (.imul, 1) := by decide +kernel
theorem dX7_way_48 : decode cX7_way 48 = .ok (.iload_n 2, 1) := by decide +kernel
theorem dX7_way_49 : decode cX7_way 49 = .ok (.iadd, 1) := by decide +kernel
theorem dX7_way_50 : decode cX7_way 50 = .ok (.iaload, 1) := by decide +kernel
theorem dX7_way_51 : decode cX7_way 51 = .ok (.istore 4, 2) := by decide +kernel
theorem dX7_way_53 : decode cX7_way 53 = .ok (.iload_n 3, 1) := by decide +kernel
theorem dX7_way_54 : decode cX7_way 54 = .ok (.iconst 1, 1) := by decide +kernel
theorem dX7_way_55 : decode cX7_way 55 = .ok (.if_icmp .ne 12, 3) := by decide +kernel
theorem dX7_way_58 : decode cX7_way 58 = .ok (.aload_n 0, 1) := by decide +kernel
theorem dX7_way_59 : decode cX7_way 59 = .ok (.iload_n 1, 1) := by decide +kernel
theorem dX7_way_60 : decode cX7_way 60 = .ok (.iload_n 2, 1) := by decide +kernel
theorem dX7_way_61 : decode cX7_way 61 = .ok (.invokevirtual 144, 3) := by decide +kernel
theorem dX7_way_64 : decode cX7_way 64 = .ok (.goto 16, 3) := by decide +kernel
theorem dX7_way_67 : decode cX7_way 67 = .ok (.iload 4, 2) := by decide +kernel
theorem dX7_way_69 : decode cX7_way 69 = .ok (.ldc 137, 2) := by decide +kernel
theorem dX7_way_71 : decode cX7_way 71 = .ok (.if_icmp .lt 7, 3) := by decide +kernel
theorem dX7_way_74 : decode cX7_way 74 = .ok (.iconst (-1), 1) := by decide +kernel
theorem dX7_way_75 : decode cX7_way 75 = .ok (.goto 5, 3) := by decide +kernel
theorem dX7_way_78 : decode cX7_way 78 = .ok (.iload 4, 2) := by decide +kernel
theorem dX7_way_80 : decode cX7_way 80 = .ok (.ireturn, 1) := by decide +kernel
set_option maxRecDepth 20000 in
theorem ggX7_fire_X7_isStation : GoodIn wsX7_fire wsX7_isStation := goodIn_r _ [7, 2, 8, 9, 6, 10, 24, 25, 26, 27, 28, 29, 30, 31, 32, 33, 34, 35, 36, 37] (by decide +kernel) (by decide +kernel)
set_option maxRecDepth 20000 in
theorem gX7_fire_X7_isStation : GoodIn wsX7_fire (wsV RX7 55 RX7 yX7_isStation wsX7_isStation) := goodIn_app (goodIn_of _ (by decide +kernel)) ggX7_fire_X7_isStation
set_option maxRecDepth 20000 in
theorem ggX7_fire_X7_fail : GoodIn wsX7_fire wsX7_fail := goodIn_r _ [14, 1, 24, 25, 26, 27, 28, 29, 30, 31, 32, 33, 34, 35, 36, 37] (by decide +kernel) (by decide +kernel)
set_option maxRecDepth 20000 in
theorem gX7_fire_X7_fail : GoodIn wsX7_fire (wsV RX7 51 RX7 yX7_fail wsX7_fail) := goodIn_app (goodIn_of _ (by decide +kernel)) ggX7_fire_X7_fail
set_option maxRecDepth 20000 in
theorem ggX7_fire_X7_has : GoodIn wsX7_fire wsX7_has := goodIn_r _ [17] (by decide +kernel) (by decide +kernel)
set_option maxRecDepth 20000 in
theorem gX7_fire_X7_has : GoodIn wsX7_fire (va_wsS RX7 121 yX7_has wsX7_has) := goodIn_app (goodIn_of _ (by decide +kernel)) ggX7_fire_X7_has
set_option maxRecDepth 20000 in
theorem ggX7_fire_X7_handOn : GoodIn wsX7_fire wsX7_handOn := goodIn_r _ [21, 2, 22, 23, 15, 16, 6, 17, 24, 25, 26, 27, 28, 29, 30, 31, 32, 33, 34, 35, 36, 37] (by decide +kernel) (by decide +kernel)
set_option maxRecDepth 20000 in
theorem gX7_fire_X7_handOn : GoodIn wsX7_fire (wsV RX7 131 RX7 yX7_handOn wsX7_handOn) := goodIn_app (goodIn_of _ (by decide +kernel)) ggX7_fire_X7_handOn
theorem dX7_fire_0 : decode cX7_fire 0 = .ok (.aload_n 0, 1) := by decide +kernel
theorem dX7_fire_1 : decode cX7_fire 1 = .ok (.iconst 0, 1) := by decide +kernel
theorem dX7_fire_2 : decode cX7_fire 2 = .ok (.putfield 34, 3) := by decide +kernel
theorem dX7_fire_5 : decode cX7_fire 5 = .ok (.aload_n 0, 1) := by decide +kernel
theorem dX7_fire_6 : decode cX7_fire 6 = .ok (.iload_n 1, 1) := by decide +kernel
theorem dX7_fire_7 : decode cX7_fire 7 = .ok (.invokevirtual 55, 3) := by decide +kernel
theorem dX7_fire_10 : decode cX7_fire 10 = .ok (.ifCond .eq 11, 3) := by decide +kernel
theorem dX7_fire_13 : decode cX7_fire 13 = .ok (.aload_n 0, 1) := by decide +kernel
theorem dX7_fire_14 : decode cX7_fire 14 = .ok (.iload_n 2, 1) := by decide +kernel
theorem dX7_fire_15 : decode cX7_fire 15 = .ok (.invokevirtual 55, 3) := by decide +kernel
theorem dX7_fire_18 : decode cX7_fire 18 = .ok (.ifCond .ne 9, 3) := by decide +kernel
theorem dX7_fire_21 : decode cX7_fire 21 = .ok (.aload_n 0, 1) := by decide +kernel
theorem dX7_fire_22 : decode cX7_fire 22 = .ok (.iconst 1, 1) := by decide +kernel
theorem dX7_fire_23 : decode cX7_fire 23 = .ok (.invokevirtual 51, 3) := by decide +kernel
theorem dX7_fire_26 : decode cX7_fire 26 = .ok (.ireturn, 1) := by decide +kernel
theorem dX7_fire_27 : decode cX7_fire 27 = .ok (.iconst 1, 1) := by decide +kernel
theorem dX7_fire_28 : decode cX7_fire 28 = .ok (.iload_n 1, 1) := by decide +kernel
theorem dX7_fire_29 : decode cX7_fire 29 = .ok (.ishl, 1) := by decide +kernel
theorem dX7_fire_30 : decode cX7_fire 30 = .ok (.istore_n 3, 1) := by decide +kernel
theorem dX7_fire_31 : decode cX7_fire 31 = .ok (.iconst 0, 1) := by decide +kernel
theorem dX7_fire_32 : decode cX7_fire 32 = .ok (.istore 4, 2) := by decide +kernel
theorem dX7_fire_34 : decode cX7_fire 34 = .ok (.iload 4, 2) := by decide +kernel
theorem dX7_fire_36 : decode cX7_fire 36 = .ok (.aload_n 0, 1) := by decide +kernel
theorem dX7_fire_37 : decode cX7_fire 37 = .ok (.getfield 38, 3) := by decide +kernel
theorem dX7_fire_40 : decode cX7_fire 40 = .ok (.if_icmp .ge 26, 3) := by decide +kernel
theorem dX7_fire_43 : decode cX7_fire 43 = .ok (.iload_n 3, 1) := by decide +kernel
theorem dX7_fire_44 : decode cX7_fire 44 = .ok (.iload_n 2, 1) := by decide +kernel
theorem dX7_fire_45 : decode cX7_fire 45 = .ok (.invokestatic 121, 3) := by decide +kernel
theorem dX7_fire_48 : decode cX7_fire 48 = .ok (.ifCond .eq 6, 3) := by decide +kernel
theorem dX7_fire_51 : decode cX7_fire 51 = .ok (.iload 4, 2) := by decide +kernel
theorem dX7_fire_53 : decode cX7_fire 53 = .ok (.ireturn, 1) := by decide +kernel
theorem dX7_fire_54 : decode cX7_fire 54 = .ok (.aload_n 0, 1) := by decide +kernel
theorem dX7_fire_55 : decode cX7_fire 55 = .ok (.iload_n 3, 1) := by decide +kernel
theorem dX7_fire_56 : decode cX7_fire 56 = .ok (.invokevirtual 131, 3) := by decide +kernel
theorem dX7_fire_59 : decode cX7_fire 59 = .ok (.istore_n 3, 1) := by decide +kernel
theorem dX7_fire_60 : decode cX7_fire 60 = .ok (.iinc 4 1, 3) := by decide +kernel
theorem dX7_fire_63 : decode cX7_fire 63 = .ok (.goto (-29), 3) := by decide +kernel
theorem dX7_fire_66 : decode cX7_fire 66 = .ok (.iload_n 3, 1) := by decide +kernel
theorem dX7_fire_67 : decode cX7_fire 67 = .ok (.iload_n 2, 1) := by decide +kernel
theorem dX7_fire_68 : decode cX7_fire 68 = .ok (.invokestatic 121, 3) := by decide +kernel
theorem dX7_fire_71 : decode cX7_fire 71 = .ok (.ifCond .eq 10, 3) := by decide +kernel
theorem dX7_fire_74 : decode cX7_fire 74 = .ok (.aload_n 0, 1) := by decide +kernel
theorem dX7_fire_75 : decode cX7_fire 75 = .ok (.getfield 38, 3) := by decide +kernel
theorem dX7_fire_78 : decode cX7_fire 78 = .ok (.goto 4, 3) := by decide +kernel
theorem dX7_fire_81 : decode cX7_fire 81 = .ok (.iconst (-1), 1) := by decide +kernel
theorem dX7_fire_82 : decode cX7_fire 82 = .ok (.ireturn, 1) := by decide +kernel
set_option maxRecDepth 20000 in
theorem ggX7_goal_X7_le : GoodIn wsX7_goal wsX7_le := goodIn_r _ [5, 6, 7, 8, 9, 10, 11, 12, 13, 14, 15, 16, 17, 18, 19, 20] (by decide +kernel) (by decide +kernel)
set_option maxRecDepth 20000 in
theorem gX7_goal_X7_le : GoodIn wsX7_goal (wsV RX7 87 RX7 yX7_le wsX7_le) := goodIn_app (goodIn_of _ (by decide +kernel)) ggX7_goal_X7_le
theorem dX7_goal_0 : decode cX7_goal 0 = .ok (.aload_n 0, 1) := by decide +kernel
theorem dX7_goal_1 : decode cX7_goal 1 = .ok (.iload_n 1, 1) := by decide +kernel
theorem dX7_goal_2 : decode cX7_goal 2 = .ok (.aload_n 0, 1) := by decide +kernel
theorem dX7_goal_3 : decode cX7_goal 3 = .ok (.iload_n 1, 1) := by decide +kernel
theorem dX7_goal_4 : decode cX7_goal 4 = .ok (.bipush 7, 2) := by decide +kernel
theorem dX7_goal_6 : decode cX7_goal 6 = .ok (.invokevirtual 87, 3) := by decide +kernel
theorem dX7_goal_9 : decode cX7_goal 9 = .ok (.iconst 1, 1) := by decide +kernel
theorem dX7_goal_10 : decode cX7_goal 10 = .ok (.if_icmp .ne 7, 3) := by decide +kernel
theorem dX7_goal_13 : decode cX7_goal 13 = .ok (.iconst 0, 1) := by decide +kernel
theorem dX7_goal_14 : decode cX7_goal 14 = .ok (.goto 4, 3) := by decide +kernel
theorem dX7_goal_17 : decode cX7_goal 17 = .ok (.iconst 1, 1) := by decide +kernel
theorem dX7_goal_18 : decode cX7_goal 18 = .ok (.invokevirtual 87, 3) := by decide +kernel
theorem dX7_goal_21 : decode cX7_goal 21 = .ok (.ireturn, 1) := by decide +kernel
set_option maxRecDepth 20000 in
theorem ggX7_end_X7_setLe : GoodIn wsX7_end wsX7_setLe := goodIn_r _ [6, 7, 8, 9, 10, 11, 12, 13, 14, 15, 16, 17, 18, 19, 20, 21] (by decide +kernel) (by decide +kernel)
set_option maxRecDepth 20000 in
theorem gX7_end_X7_setLe : GoodIn wsX7_end (wsV RX7 128 RX7 yX7_setLe wsX7_setLe) := goodIn_app (goodIn_of _ (by decide +kernel)) ggX7_end_X7_setLe
theorem dX7_end_0 : decode cX7_end 0 = .ok (.aload_n 0, 1) := by decide +kernel
theorem dX7_end_1 : decode cX7_end 1 = .ok (.iload_n 1, 1) := by decide +kernel
theorem dX7_end_2 : decode cX7_end 2 = .ok (.iconst 3, 1) := by decide +kernel
theorem dX7_end_3 : decode cX7_end 3 = .ok (.iload_n 2, 1) := by decide +kernel
theorem dX7_end_4 : decode cX7_end 4 = .ok (.invokevirtual 128, 3) := by decide +kernel
theorem dX7_end_7 : decode cX7_end 7 = .ok (.aload_n 0, 1) := by decide +kernel
theorem dX7_end_8 : decode cX7_end 8 = .ok (.iload_n 1, 1) := by decide +kernel
theorem dX7_end_9 : decode cX7_end 9 = .ok (.bipush 9, 2) := by decide +kernel
theorem dX7_end_11 : decode cX7_end 11 = .ok (.aload_n 0, 1) := by decide +kernel
theorem dX7_end_12 : decode cX7_end 12 = .ok (.getfield 25, 3) := by decide +kernel
theorem dX7_end_15 : decode cX7_end 15 = .ok (.iconst 0, 1) := by decide +kernel
theorem dX7_end_16 : decode cX7_end 16 = .ok (.iaload, 1) := by decide +kernel
theorem dX7_end_17 : decode cX7_end 17 = .ok (.invokevirtual 128, 3) := by decide +kernel
theorem dX7_end_20 : decode cX7_end 20 = .ok (.return_, 1) := by decide +kernel
set_option maxRecDepth 20000 in
theorem ggX7_unload_X7_setLe : GoodIn wsX7_unload wsX7_setLe := goodIn_r _ [5, 6, 20, 21, 22, 23, 24, 25, 26, 27, 28, 29, 30, 31, 32, 33] (by decide +kernel) (by decide +kernel)
set_option maxRecDepth 20000 in
theorem gX7_unload_X7_setLe : GoodIn wsX7_unload (wsV RX7 128 RX7 yX7_setLe wsX7_setLe) := goodIn_app (goodIn_of _ (by decide +kernel)) ggX7_unload_X7_setLe
set_option maxRecDepth 20000 in
theorem ggX7_unload_X7_goal : GoodIn wsX7_unload wsX7_goal := goodIn_r _ [10, 11, 12, 13, 4, 14, 6, 20, 21, 22, 23, 24, 25, 26, 27, 28, 29, 30, 31, 32, 33] (by decide +kernel) (by decide +kernel)
set_option maxRecDepth 20000 in
theorem gX7_unload_X7_goal : GoodIn wsX7_unload (wsV RX7 147 RX7 yX7_goal wsX7_goal) := goodIn_app (goodIn_of _ (by decide +kernel)) ggX7_unload_X7_goal
set_option maxRecDepth 20000 in
theorem ggX7_unload_X7_le : GoodIn wsX7_unload wsX7_le := goodIn_r _ [14, 6, 20, 21, 22, 23, 24, 25, 26, 27, 28, 29, 30, 31, 32, 33] (by decide +kernel) (by decide +kernel)
set_option maxRecDepth 20000 in
theorem gX7_unload_X7_le : GoodIn wsX7_unload (wsV RX7 87 RX7 yX7_le wsX7_le) := goodIn_app (goodIn_of _ (by decide +kernel)) ggX7_unload_X7_le
set_option maxRecDepth 20000 in
theorem ggX7_unload_X7_end : GoodIn wsX7_unload wsX7_end := goodIn_r _ [18, 19, 1, 2, 3, 4, 5, 6, 20, 21, 22, 23, 24, 25, 26, 27, 28, 29, 30, 31, 32, 33] (by decide +kernel) (by decide +kernel)
set_option maxRecDepth 20000 in
theorem gX7_unload_X7_end : GoodIn wsX7_unload (wsV RX7 150 RX7 yX7_end wsX7_end) := goodIn_app (goodIn_of _ (by decide +kernel)) ggX7_unload_X7_end
theorem dX7_unload_0 : decode cX7_unload 0 = .ok (.aload_n 0, 1) := by decide +kernel
theorem dX7_unload_1 : decode cX7_unload 1 = .ok (.iload_n 1, 1) := by decide +kernel
theorem dX7_unload_2 : decode cX7_unload 2 = .ok (.iconst 3, 1) := by decide +kernel
theorem dX7_unload_3 : decode cX7_unload 3 = .ok (.iconst 0, 1) := by decide +kernel
theorem dX7_unload_4 : decode cX7_unload 4 = .ok (.invokevirtual 128, 3) := by decide +kernel
theorem dX7_unload_7 : decode cX7_unload 7 = .ok (.aload_n 0, 1) := by decide +kernel
theorem dX7_unload_8 : decode cX7_unload 8 = .ok (.iload_n 1, 1) := by decide +kernel
theorem dX7_unload_9 : decode cX7_unload 9 = .ok (.iconst 5, 1) := by decide +kernel
theorem dX7_unload_10 : decode cX7_unload 10 = .ok (.iconst (-1), 1) := by decide +kernel
theorem dX7_unload_11 : decode cX7_unload 11 = .ok (.invokevirtual 128, 3) := by decide +kernel
theorem dX7_unload_14 : decode cX7_unload 14 = .ok (.aload_n 0, 1) := by decide +kernel
theorem dX7_unload_15 : decode cX7_unload 15 = .ok (.iload_n 1, 1) := by decide +kernel
theorem dX7_unload_16 : decode cX7_unload 16 = .ok (.iconst 4, 1) := by decide +kernel
theorem dX7_unload_17 : decode cX7_unload 17 = .ok (.iload_n 2, 1) := by decide +kernel
theorem dX7_unload_18 : decode cX7_unload 18 = .ok (.invokevirtual 128, 3) := by decide +kernel
theorem dX7_unload_21 : decode cX7_unload 21 = .ok (.aload_n 0, 1) := by decide +kernel
theorem dX7_unload_22 : decode cX7_unload 22 = .ok (.iload_n 1, 1) := by decide +kernel
theorem dX7_unload_23 : decode cX7_unload 23 = .ok (.invokevirtual 147, 3) := by decide +kernel
theorem dX7_unload_26 : decode cX7_unload 26 = .ok (.iload_n 2, 1) := by decide +kernel
theorem dX7_unload_27 : decode cX7_unload 27 = .ok (.if_icmp .eq 5, 3) := by decide +kernel
theorem dX7_unload_30 : decode cX7_unload 30 = .ok (.iconst 0, 1) := by decide +kernel
theorem dX7_unload_31 : decode cX7_unload 31 = .ok (.ireturn, 1) := by decide +kernel
theorem dX7_unload_32 : decode cX7_unload 32 = .ok (.aload_n 0, 1) := by decide +kernel
theorem dX7_unload_33 : decode cX7_unload 33 = .ok (.iload_n 1, 1) := by decide +kernel
theorem dX7_unload_34 : decode cX7_unload 34 = .ok (.bipush 7, 2) := by decide +kernel
theorem dX7_unload_36 : decode cX7_unload 36 = .ok (.invokevirtual 87, 3) := by decide +kernel
theorem dX7_unload_39 : decode cX7_unload 39 = .ok (.iconst 1, 1) := by decide +kernel
theorem dX7_unload_40 : decode cX7_unload 40 = .ok (.if_icmp .ne 7, 3) := by decide +kernel
theorem dX7_unload_43 : decode cX7_unload 43 = .ok (.iconst 1, 1) := by decide +kernel
theorem dX7_unload_44 : decode cX7_unload 44 = .ok (.goto 4, 3) := by decide +kernel
theorem dX7_unload_47 : decode cX7_unload 47 = .ok (.iconst 0, 1) := by decide +kernel
theorem dX7_unload_48 : decode cX7_unload 48 = .ok (.istore_n 3, 1) := by decide +kernel
theorem dX7_unload_49 : decode cX7_unload 49 = .ok (.aload_n 0, 1) := by decide +kernel
theorem dX7_unload_50 : decode cX7_unload 50 = .ok (.iload_n 1, 1) := by decide +kernel
theorem dX7_unload_51 : decode cX7_unload 51 = .ok (.iload_n 3, 1) := by decide +kernel
theorem dX7_unload_52 : decode cX7_unload 52 = .ok (.ifCond .eq 7, 3) := by decide +kernel
theorem dX7_unload_55 : decode cX7_unload 55 = .ok (.iconst 3, 1) := by decide +kernel
theorem dX7_unload_56 : decode cX7_unload 56 = .ok (.goto 4, 3) := by decide +kernel
theorem dX7_unload_59 : decode cX7_unload 59 = .ok (.iconst 2, 1) := by decide +kernel
theorem dX7_unload_60 : decode cX7_unload 60 = .ok (.invokevirtual 150, 3) := by decide +kernel
theorem dX7_unload_63 : decode cX7_unload 63 = .ok (.iload_n 3, 1) := by decide +kernel
theorem dX7_unload_64 : decode cX7_unload 64 = .ok (.ifCond .ne 7, 3) := by decide +kernel
theorem dX7_unload_67 : decode cX7_unload 67 = .ok (.iconst 1, 1) := by decide +kernel
theorem dX7_unload_68 : decode cX7_unload 68 = .ok (.goto 4, 3) := by decide +kernel
theorem dX7_unload_71 : decode cX7_unload 71 = .ok (.iconst 0, 1) := by decide +kernel
theorem dX7_unload_72 : decode cX7_unload 72 = .ok (.ireturn, 1) := by decide +kernel
set_option maxRecDepth 20000 in
theorem ggX7_waitsFor_X7_le : GoodIn wsX7_waitsFor wsX7_le := goodIn_r _ [5, 6, 16, 17, 18, 19, 20, 21, 22, 23, 24, 25, 26, 27, 28, 29] (by decide +kernel) (by decide +kernel)
set_option maxRecDepth 20000 in
theorem gX7_waitsFor_X7_le : GoodIn wsX7_waitsFor (wsV RX7 87 RX7 yX7_le wsX7_le) := goodIn_app (goodIn_of _ (by decide +kernel)) ggX7_waitsFor_X7_le
set_option maxRecDepth 20000 in
theorem ggX7_waitsFor_X7_goal : GoodIn wsX7_waitsFor wsX7_goal := goodIn_r _ [10, 1, 2, 3, 4, 5, 6, 16, 17, 18, 19, 20, 21, 22, 23, 24, 25, 26, 27, 28, 29] (by decide +kernel) (by decide +kernel)
set_option maxRecDepth 20000 in
theorem gX7_waitsFor_X7_goal : GoodIn wsX7_waitsFor (wsV RX7 147 RX7 yX7_goal wsX7_goal) := goodIn_app (goodIn_of _ (by decide +kernel)) ggX7_waitsFor_X7_goal
set_option maxRecDepth 20000 in
theorem ggX7_waitsFor_X7_firstRoad : GoodIn wsX7_waitsFor wsX7_firstRoad := goodIn_r _ [14, 15, 16, 17, 18, 19, 20, 21, 22, 23, 24, 25, 26, 27, 28, 29] (by decide +kernel) (by decide +kernel)
set_option maxRecDepth 20000 in
theorem gX7_waitsFor_X7_firstRoad : GoodIn wsX7_waitsFor (wsV RX7 144 RX7 yX7_firstRoad wsX7_firstRoad) := goodIn_app (goodIn_of _ (by decide +kernel)) ggX7_waitsFor_X7_firstRoad
theorem dX7_waitsFor_0 : decode cX7_waitsFor 0 = .ok (.aload_n 0, 1) := by decide +kernel
theorem dX7_waitsFor_1 : decode cX7_waitsFor 1 = .ok (.iload_n 1, 1) := by decide +kernel
theorem dX7_waitsFor_2 : decode cX7_waitsFor 2 = .ok (.iconst 3, 1) := by decide +kernel
theorem dX7_waitsFor_3 : decode cX7_waitsFor 3 = .ok (.invokevirtual 87, 3) := by decide +kernel
theorem dX7_waitsFor_6 : decode cX7_waitsFor 6 = .ok (.ifCond .ne 31, 3) := by decide +kernel
theorem dX7_waitsFor_9 : decode cX7_waitsFor 9 = .ok (.aload_n 0, 1) := by decide +kernel
theorem dX7_waitsFor_10 : decode cX7_waitsFor 10 = .ok (.iload_n 1, 1) := by decide +kernel
theorem dX7_waitsFor_11 : decode cX7_waitsFor 11 = .ok (.iconst 4, 1) := by decide +kernel
theorem dX7_waitsFor_12 : decode cX7_waitsFor 12 = .ok (.invokevirtual 87, 3) := by decide +kernel
theorem dX7_waitsFor_15 : decode cX7_waitsFor 15 = .ok (.iload_n 2, 1) := by decide +kernel
theorem dX7_waitsFor_16 : decode cX7_waitsFor 16 = .ok (.if_icmp .ne 21, 3) := by decide +kernel
theorem dX7_waitsFor_19 : decode cX7_waitsFor 19 = .ok (.aload_n 0, 1) := by decide +kernel
theorem dX7_waitsFor_20 : decode cX7_waitsFor 20 = .ok (.iload_n 2, 1) := by decide +kernel
theorem dX7_waitsFor_21 : decode cX7_waitsFor 21 = .ok (.aload_n 0, 1) := by decide +kernel
theorem dX7_waitsFor_22 : decode cX7_waitsFor 22 = .ok (.iload_n 1, 1) := by decide +kernel
theorem dX7_waitsFor_23 : decode cX7_waitsFor 23 = .ok (.invokevirtual 147, 3) := by decide +kernel
theorem dX7_waitsFor_26 : decode cX7_waitsFor 26 = .ok (.invokevirtual 144, 3) := by decide +kernel
theorem dX7_waitsFor_29 : decode cX7_waitsFor 29 = .ok (.iload_n 3, 1) := by decide +kernel
theorem dX7_waitsFor_30 : decode cX7_waitsFor 30 = .ok (.if_icmp .ne 7, 3) := by decide +kernel
theorem dX7_waitsFor_33 : decode cX7_waitsFor 33 = .ok (.iconst 1, 1) := by decide +kernel
theorem dX7_waitsFor_34 : decode cX7_waitsFor 34 = .ok (.goto 4, 3) := by decide +kernel
theorem dX7_waitsFor_37 : decode cX7_waitsFor 37 = .ok (.iconst 0, 1) := by decide +kernel
theorem dX7_waitsFor_38 : decode cX7_waitsFor 38 = .ok (.ireturn, 1) := by decide +kernel
set_option maxRecDepth 20000 in
theorem ggX7_next_X7_waitsFor : GoodIn wsX7_next wsX7_waitsFor := goodIn_r _ [6, 7, 8, 9, 5, 10, 11, 12, 13, 14, 15, 16, 17, 18, 19, 20, 21, 22, 23, 24, 25, 26, 27, 28, 29, 30, 31, 32, 33, 34] (by decide +kernel) (by decide +kernel)
set_option maxRecDepth 20000 in
theorem gX7_next_X7_waitsFor : GoodIn wsX7_next (wsV RX7 154 RX7 yX7_waitsFor wsX7_waitsFor) := goodIn_app (goodIn_of _ (by decide +kernel)) ggX7_next_X7_waitsFor
set_option maxRecDepth 20000 in
theorem ggX7_next_X7_le : GoodIn wsX7_next wsX7_le := goodIn_r _ [10, 11, 21, 22, 23, 24, 25, 26, 27, 28, 29, 30, 31, 32, 33, 34] (by decide +kernel) (by decide +kernel)
set_option maxRecDepth 20000 in
theorem gX7_next_X7_le : GoodIn wsX7_next (wsV RX7 87 RX7 yX7_le wsX7_le) := goodIn_app (goodIn_of _ (by decide +kernel)) ggX7_next_X7_le
theorem dX7_next_0 : decode cX7_next 0 = .ok (.iconst (-1), 1) := by decide +kernel
theorem dX7_next_1 : decode cX7_next 1 = .ok (.istore_n 3, 1) := by decide +kernel
theorem dX7_next_2 : decode cX7_next 2 = .ok (.iconst 0, 1) := by decide +kernel
theorem dX7_next_3 : decode cX7_next 3 = .ok (.istore 4, 2) := by decide +kernel
theorem dX7_next_5 : decode cX7_next 5 = .ok (.iload 4, 2) := by decide +kernel
theorem dX7_next_7 : decode cX7_next 7 = .ok (.aload_n 0, 1) := by decide +kernel
theorem dX7_next_8 : decode cX7_next 8 = .ok (.getfield 48, 3) := by decide +kernel
theorem dX7_next_11 : decode cX7_next 11 = .ok (.if_icmp .ge 44, 3) := by decide +kernel
theorem dX7_next_14 : decode cX7_next 14 = .ok (.aload_n 0, 1) := by decide +kernel
theorem dX7_next_15 : decode cX7_next 15 = .ok (.iload 4, 2) := by decide +kernel
theorem dX7_next_17 : decode cX7_next 17 = .ok (.iload_n 1, 1) := by decide +kernel
theorem dX7_next_18 : decode cX7_next 18 = .ok (.iload_n 2, 1) := by decide +kernel
theorem dX7_next_19 : decode cX7_next 19 = .ok (.invokevirtual 154, 3) := by decide +kernel
theorem dX7_next_22 : decode cX7_next 22 = .ok (.ifCond .eq 27, 3) := by decide +kernel
theorem dX7_next_25 : decode cX7_next 25 = .ok (.iload_n 3, 1) := by decide +kernel
theorem dX7_next_26 : decode cX7_next 26 = .ok (.iconst (-1), 1) := by decide +kernel
theorem dX7_next_27 : decode cX7_next 27 = .ok (.if_icmp .eq 19, 3) := by decide +kernel
theorem dX7_next_30 : decode cX7_next 30 = .ok (.aload_n 0, 1) := by decide +kernel
theorem dX7_next_31 : decode cX7_next 31 = .ok (.iload 4, 2) := by decide +kernel
theorem dX7_next_33 : decode cX7_next 33 = .ok (.iconst 2, 1) := by decide +kernel
theorem dX7_next_34 : decode cX7_next 34 = .ok (.invokevirtual 87, 3) := by decide +kernel
theorem dX7_next_37 : decode cX7_next 37 = .ok (.aload_n 0, 1) := by decide +kernel
theorem dX7_next_38 : decode cX7_next 38 = .ok (.iload_n 3, 1) := by decide +kernel
theorem dX7_next_39 : decode cX7_next 39 = .ok (.iconst 2, 1) := by decide +kernel
theorem dX7_next_40 : decode cX7_next 40 = .ok (.invokevirtual 87, 3) := by decide +kernel
theorem dX7_next_43 : decode cX7_next 43 = .ok (.if_icmp .le 6, 3) := by decide +kernel
theorem dX7_next_46 : decode cX7_next 46 = .ok (.iload 4, 2) := by decide +kernel
theorem dX7_next_48 : decode cX7_next 48 = .ok (.istore_n 3, 1) := by decide +kernel
theorem dX7_next_49 : decode cX7_next 49 = .ok (.iinc 4 1, 3) := by decide +kernel
theorem dX7_next_52 : decode cX7_next 52 = .ok (.goto (-47), 3) := by decide +kernel
theorem dX7_next_55 : decode cX7_next 55 = .ok (.iload_n 3, 1) := by decide +kernel
theorem dX7_next_56 : decode cX7_next 56 = .ok (.ireturn, 1) := by decide +kernel
set_option maxRecDepth 20000 in
theorem ggX7_setOut_X7_mu : GoodIn wsX7_setOut wsX7_mu := goodIn_r _ [7, 8, 57, 58, 59, 60, 61, 62, 63, 64, 65, 66, 67, 68, 69, 70] (by decide +kernel) (by decide +kernel)
set_option maxRecDepth 20000 in
theorem gX7_setOut_X7_mu : GoodIn wsX7_setOut (wsV RX7 90 RX7 yX7_mu wsX7_mu) := goodIn_app (goodIn_of _ (by decide +kernel)) ggX7_setOut_X7_mu
set_option maxRecDepth 20000 in
theorem ggX7_setOut_X7_otherEnd : GoodIn wsX7_setOut wsX7_otherEnd := goodIn_r _ [12, 13, 14, 15, 6, 16, 17, 57, 58, 59, 60, 61, 62, 63, 64, 65, 66, 67, 68, 69, 70] (by decide +kernel) (by decide +kernel)
set_option maxRecDepth 20000 in
theorem gX7_setOut_X7_otherEnd : GoodIn wsX7_setOut (wsV RX7 100 RX7 yX7_otherEnd wsX7_otherEnd) := goodIn_app (goodIn_of _ (by decide +kernel)) ggX7_setOut_X7_otherEnd
set_option maxRecDepth 20000 in
theorem ggX7_setOut_X7_next : GoodIn wsX7_setOut wsX7_next := goodIn_r _ [21, 1, 22, 23, 24, 6, 25, 26, 27, 28, 29, 30, 31, 32, 33, 34, 35, 36, 37, 38, 39, 57, 58, 59, 60, 61, 62, 63, 64, 65, 66, 67, 68, 69, 70] (by decide +kernel) (by decide +kernel)
set_option maxRecDepth 20000 in
theorem gX7_setOut_X7_next : GoodIn wsX7_setOut (wsV RX7 157 RX7 yX7_next wsX7_next) := goodIn_app (goodIn_of _ (by decide +kernel)) ggX7_setOut_X7_next
set_option maxRecDepth 20000 in
theorem ggX7_setOut_X7_setLe : GoodIn wsX7_setOut wsX7_setLe := goodIn_r _ [43, 30, 57, 58, 59, 60, 61, 62, 63, 64, 65, 66, 67, 68, 69, 70] (by decide +kernel) (by decide +kernel)
set_option maxRecDepth 20000 in
theorem gX7_setOut_X7_setLe : GoodIn wsX7_setOut (wsV RX7 128 RX7 yX7_setLe wsX7_setLe) := goodIn_app (goodIn_of _ (by decide +kernel)) ggX7_setOut_X7_setLe
set_option maxRecDepth 20000 in
theorem ggX7_setOut_X7_le : GoodIn wsX7_setOut wsX7_le := goodIn_r _ [29, 30, 57, 58, 59, 60, 61, 62, 63, 64, 65, 66, 67, 68, 69, 70] (by decide +kernel) (by decide +kernel)
set_option maxRecDepth 20000 in
theorem gX7_setOut_X7_le : GoodIn wsX7_setOut (wsV RX7 87 RX7 yX7_le wsX7_le) := goodIn_app (goodIn_of _ (by decide +kernel)) ggX7_setOut_X7_le
set_option maxRecDepth 20000 in
theorem ggX7_setOut_X7_setMu : GoodIn wsX7_setOut wsX7_setMu := goodIn_r _ [47, 8, 57, 58, 59, 60, 61, 62, 63, 64, 65, 66, 67, 68, 69, 70] (by decide +kernel) (by decide +kernel)
set_option maxRecDepth 20000 in
theorem gX7_setOut_X7_setMu : GoodIn wsX7_setOut (wsV RX7 160 RX7 yX7_setMu wsX7_setMu) := goodIn_app (goodIn_of _ (by decide +kernel)) ggX7_setOut_X7_setMu
set_option maxRecDepth 20000 in
theorem ggX7_setOut_X7_hoursFrom : GoodIn wsX7_setOut wsX7_hoursFrom := goodIn_r _ [51, 52, 53, 54, 55, 56, 13, 14, 15, 6, 16, 17, 9, 10, 11, 12, 57, 58, 59, 60, 61, 62, 63, 64, 65, 66, 67, 68, 69, 70] (by decide +kernel) (by decide +kernel)
set_option maxRecDepth 20000 in
theorem gX7_setOut_X7_hoursFrom : GoodIn wsX7_setOut (wsV RX7 108 RX7 yX7_hoursFrom wsX7_hoursFrom) := goodIn_app (goodIn_of _ (by decide +kernel)) ggX7_setOut_X7_hoursFrom
theorem dX7_setOut_0 : decode cX7_setOut 0 = .ok (.aload_n 0, 1) := by decide +kernel
theorem dX7_setOut_1 : decode cX7_setOut 1 = .ok (.iload_n 1, 1) := by decide +kernel
theorem dX7_setOut_2 : decode cX7_setOut 2 = .ok (.iconst 0, 1) := by decide +kernel
theorem dX7_setOut_3 : decode cX7_setOut 3 = .ok (.invokevirtual 90, 3) := by decide +kernel
theorem dX7_setOut_6 : decode cX7_setOut 6 = .ok (.istore_n 2, 1) := by decide +kernel
theorem dX7_setOut_7 : decode cX7_setOut 7 = .ok (.aload_n 0, 1) := by decide +kernel
theorem dX7_setOut_8 : decode cX7_setOut 8 = .ok (.iload_n 1, 1) := by decide +kernel
theorem dX7_setOut_9 : decode cX7_setOut 9 = .ok (.iconst 2, 1) := by decide +kernel
theorem dX7_setOut_10 : decode cX7_setOut 10 = .ok (.invokevirtual 90, 3) := by decide +kernel
theorem dX7_setOut_13 : decode cX7_setOut 13 = .ok (.istore_n 3, 1) := by decide +kernel
theorem dX7_setOut_14 : decode cX7_setOut 14 = .ok (.aload_n 0, 1) := by decide +kernel
theorem dX7_setOut_15 : decode cX7_setOut 15 = .ok (.iload_n 2, 1) := by decide +kernel
theorem dX7_setOut_16 : decode cX7_setOut 16 = .ok (.iload_n 3, 1) := by decide +kernel
theorem dX7_setOut_17 : decode cX7_setOut 17 = .ok (.invokevirtual 100, 3) := by decide +kernel
theorem dX7_setOut_20 : decode cX7_setOut 20 = .ok (.istore 4, 2) := by decide +kernel
theorem dX7_setOut_22 : decode cX7_setOut 22 = .ok (.iconst 0, 1) := by decide +kernel
theorem dX7_setOut_23 : decode cX7_setOut 23 = .ok (.istore 5, 2) := by decide +kernel
theorem dX7_setOut_25 : decode cX7_setOut 25 = .ok (.aload_n 0, 1) := by decide +kernel
theorem dX7_setOut_26 : decode cX7_setOut 26 = .ok (.iload_n 3, 1) := by decide +kernel
theorem dX7_setOut_27 : decode cX7_setOut 27 = .ok (.iload_n 2, 1) := by decide +kernel
theorem dX7_setOut_28 : decode cX7_setOut 28 = .ok (.invokevirtual 157, 3) := by decide +kernel
theorem dX7_setOut_31 : decode cX7_setOut 31 = .ok (.istore 6, 2) := by decide +kernel
theorem dX7_setOut_33 : decode cX7_setOut 33 = .ok (.iload 6, 2) := by decide +kernel
theorem dX7_setOut_35 : decode cX7_setOut 35 = .ok (.iconst (-1), 1) := by decide +kernel
theorem dX7_setOut_36 : decode cX7_setOut 36 = .ok (.if_icmp .eq 52, 3) := by decide +kernel
theorem dX7_setOut_39 : decode cX7_setOut 39 = .ok (.iload 5, 2) := by decide +kernel
theorem dX7_setOut_41 : decode cX7_setOut 41 = .ok (.aload_n 0, 1) := by decide +kernel
theorem dX7_setOut_42 : decode cX7_setOut 42 = .ok (.iload_n 1, 1) := by decide +kernel
theorem dX7_setOut_43 : decode cX7_setOut 43 = .ok (.iconst 1, 1) := by decide +kernel
theorem dX7_setOut_44 : decode cX7_setOut 44 = .ok (.invokevirtual 90, 3) := by decide +kernel
theorem dX7_setOut_47 : decode cX7_setOut 47 = .ok (.if_icmp .ge 41, 3) := by decide +kernel
theorem dX7_setOut_50 : decode cX7_setOut 50 = .ok (.aload_n 0, 1) := by decide +kernel
theorem dX7_setOut_51 : decode cX7_setOut 51 = .ok (.iload 6, 2) := by decide +kernel
theorem dX7_setOut_53 : decode cX7_setOut 53 = .ok (.iconst 3, 1) := by decide +kernel
theorem dX7_setOut_54 : decode cX7_setOut 54 = .ok (.iconst 1, 1) := by decide +kernel
theorem dX7_setOut_55 : decode cX7_setOut 55 = .ok (.invokevirtual 128, 3) := by decide +kernel
theorem dX7_setOut_58 : decode cX7_setOut 58 = .ok (.aload_n 0, 1) := by decide +kernel
theorem dX7_setOut_59 : decode cX7_setOut 59 = .ok (.iload 6, 2) := by decide +kernel
theorem dX7_setOut_61 : decode cX7_setOut 61 = .ok (.iconst 5, 1) := by decide +kernel
theorem dX7_setOut_62 : decode cX7_setOut 62 = .ok (.iload_n 1, 1) := by decide +kernel
theorem dX7_setOut_63 : decode cX7_setOut 63 = .ok (.invokevirtual 128, 3) := by decide +kernel
theorem dX7_setOut_66 : decode cX7_setOut 66 = .ok (.aload_n 0, 1) := by decide +kernel
theorem dX7_setOut_67 : decode cX7_setOut 67 = .ok (.iload 6, 2) := by decide +kernel
theorem dX7_setOut_69 : decode cX7_setOut 69 = .ok (.iconst 4, 1) := by decide +kernel
theorem dX7_setOut_70 : decode cX7_setOut 70 = .ok (.iconst (-1), 1) := by decide +kernel
theorem dX7_setOut_71 : decode cX7_setOut 71 = .ok (.invokevirtual 128, 3) := by decide +kernel
theorem dX7_setOut_74 : decode cX7_setOut 74 = .ok (.iinc 5 1, 3) := by decide +kernel
theorem dX7_setOut_77 : decode cX7_setOut 77 = .ok (.aload_n 0, 1) := by decide +kernel
theorem dX7_setOut_78 : decode cX7_setOut 78 = .ok (.iload_n 3, 1) := by decide +kernel
theorem dX7_setOut_79 : decode cX7_setOut 79 = .ok (.iload_n 2, 1) := by decide +kernel
theorem dX7_setOut_80 : decode cX7_setOut 80 = .ok (.invokevirtual 157, 3) := by decide +kernel
theorem dX7_setOut_83 : decode cX7_setOut 83 = .ok (.istore 6, 2) := by decide +kernel
theorem dX7_setOut_85 : decode cX7_setOut 85 = .ok (.goto (-52), 3) := by decide +kernel
theorem dX7_setOut_88 : decode cX7_setOut 88 = .ok (.iload 5, 2) := by decide +kernel
theorem dX7_setOut_90 : decode cX7_setOut 90 = .ok (.ifCond .ne 15, 3) := by decide +kernel
theorem dX7_setOut_93 : decode cX7_setOut 93 = .ok (.aload_n 0, 1) := by decide +kernel
theorem dX7_setOut_94 : decode cX7_setOut 94 = .ok (.iload 4, 2) := by decide +kernel
theorem dX7_setOut_96 : decode cX7_setOut 96 = .ok (.iload_n 2, 1) := by decide +kernel
theorem dX7_setOut_97 : decode cX7_setOut 97 = .ok (.invokevirtual 157, 3) := by decide +kernel
theorem dX7_setOut_100 : decode cX7_setOut 100 = .ok (.iconst (-1), 1) := by decide +kernel
theorem dX7_setOut_101 : decode cX7_setOut 101 = .ok (.if_icmp .ne 4, 3) := by decide +kernel
theorem dX7_setOut_104 : decode cX7_setOut 104 = .ok (.return_, 1) := by decide +kernel
theorem dX7_setOut_105 : decode cX7_setOut 105 = .ok (.iconst 0, 1) := by decide +kernel
theorem dX7_setOut_106 : decode cX7_setOut 106 = .ok (.istore 6, 2) := by decide +kernel
theorem dX7_setOut_108 : decode cX7_setOut 108 = .ok (.iload 6, 2) := by decide +kernel
theorem dX7_setOut_110 : decode cX7_setOut 110 = .ok (.aload_n 0, 1) := by decide +kernel
theorem dX7_setOut_111 : decode cX7_setOut 111 = .ok (.getfield 48, 3) := by decide +kernel
theorem dX7_setOut_114 : decode cX7_setOut 114 = .ok (.if_icmp .ge 135, 3) := by decide +kernel
theorem dX7_setOut_117 : decode cX7_setOut 117 = .ok (.aload_n 0, 1) := by decide +kernel
theorem dX7_setOut_118 : decode cX7_setOut 118 = .ok (.iload 6, 2) := by decide +kernel
theorem dX7_setOut_120 : decode cX7_setOut 120 = .ok (.iconst 5, 1) := by decide +kernel
theorem dX7_setOut_121 : decode cX7_setOut 121 = .ok (.invokevirtual 87, 3) := by decide +kernel
theorem dX7_setOut_124 : decode cX7_setOut 124 = .ok (.iload_n 1, 1) := by decide +kernel
theorem dX7_setOut_125 : decode cX7_setOut 125 = .ok (.if_icmp .eq 6, 3) := by decide +kernel
theorem dX7_setOut_128 : decode cX7_setOut 128 = .ok (.goto 115, 3) := by decide +kernel
theorem dX7_setOut_131 : decode cX7_setOut 131 = .ok (.iconst 0, 1) := by decide +kernel
theorem dX7_setOut_132 : decode cX7_setOut 132 = .ok (.istore 7, 2) := by decide +kernel
theorem dX7_setOut_134 : decode cX7_setOut 134 = .ok (.iload 7, 2) := by decide +kernel
theorem dX7_setOut_136 : decode cX7_setOut 136 = .ok (.aload_n 0, 1) := by decide +kernel
theorem dX7_setOut_137 : decode cX7_setOut 137 = .ok (.getfield 48, 3) := by decide +kernel
theorem dX7_setOut_140 : decode cX7_setOut 140 = .ok (.if_icmp .ge 103, 3) := by decide +kernel
theorem dX7_setOut_143 : decode cX7_setOut 143 = .ok (.aload_n 0, 1) := by decide +kernel
theorem dX7_setOut_144 : decode cX7_setOut 144 = .ok (.iload 7, 2) := by decide +kernel
theorem dX7_setOut_146 : decode cX7_setOut 146 = .ok (.iconst 5, 1) := by decide +kernel
theorem dX7_setOut_147 : decode cX7_setOut 147 = .ok (.invokevirtual 87, 3) := by decide +kernel
theorem dX7_setOut_150 : decode cX7_setOut 150 = .ok (.istore 8, 2) := by decide +kernel
theorem dX7_setOut_152 : decode cX7_setOut 152 = .ok (.iload 8, 2) := by decide +kernel
theorem dX7_setOut_154 : decode cX7_setOut 154 = .ok (.iconst (-1), 1) := by decide +kernel
theorem dX7_setOut_155 : decode cX7_setOut 155 = .ok (.if_icmp .eq 82, 3) := by decide +kernel
theorem dX7_setOut_158 : decode cX7_setOut 158 = .ok (.aload_n 0, 1) := by decide +kernel
theorem dX7_setOut_159 : decode cX7_setOut 159 = .ok (.iload 8, 2) := by decide +kernel
theorem dX7_setOut_161 : decode cX7_setOut 161 = .ok (.iconst 0, 1) := by decide +kernel
theorem dX7_setOut_162 : decode cX7_setOut 162 = .ok (.invokevirtual 90, 3) := by decide +kernel
theorem dX7_setOut_165 : decode cX7_setOut 165 = .ok (.iload_n 2, 1) := by decide +kernel
theorem dX7_setOut_166 : decode cX7_setOut 166 = .ok (.if_icmp .ne 71, 3) := by decide +kernel
theorem dX7_setOut_169 : decode cX7_setOut 169 = .ok (.aload_n 0, 1) := by decide +kernel
theorem dX7_setOut_170 : decode cX7_setOut 170 = .ok (.iload 8, 2) := by decide +kernel
theorem dX7_setOut_172 : decode cX7_setOut 172 = .ok (.iconst 3, 1) := by decide +kernel
theorem dX7_setOut_173 : decode cX7_setOut 173 = .ok (.invokevirtual 90, 3) := by decide +kernel
theorem dX7_setOut_176 : decode cX7_setOut 176 = .ok (.ifCond .eq 61, 3) := by decide +kernel
theorem dX7_setOut_179 : decode cX7_setOut 179 = .ok (.aload_n 0, 1) := by decide +kernel
theorem dX7_setOut_180 : decode cX7_setOut 180 = .ok (.iload 8, 2) := by decide +kernel
theorem dX7_setOut_182 : decode cX7_setOut 182 = .ok (.iconst 2, 1) := by decide +kernel
theorem dX7_setOut_183 : decode cX7_setOut 183 = .ok (.invokevirtual 90, 3) := by decide +kernel
theorem dX7_setOut_186 : decode cX7_setOut 186 = .ok (.iload_n 3, 1) := by decide +kernel
theorem dX7_setOut_187 : decode cX7_setOut 187 = .ok (.if_icmp .eq 6, 3) := by decide +kernel
theorem dX7_setOut_190 : decode cX7_setOut 190 = .ok (.goto 47, 3) := by decide +kernel
theorem dX7_setOut_193 : decode cX7_setOut 193 = .ok (.aload_n 0, 1) := by decide +kernel
theorem dX7_setOut_194 : decode cX7_setOut 194 = .ok (.iload 6, 2) := by decide +kernel
theorem dX7_setOut_196 : decode cX7_setOut 196 = .ok (.iconst 0, 1) := by decide +kernel
theorem dX7_setOut_197 : decode cX7_setOut 197 = .ok (.invokevirtual 87, 3) := by decide +kernel
theorem dX7_setOut_200 : decode cX7_setOut 200 = .ok (.aload_n 0, 1) := by decide +kernel
theorem dX7_setOut_201 : decode cX7_setOut 201 = .ok (.iload 7, 2) := by decide +kernel
theorem dX7_setOut_203 : decode cX7_setOut 203 = .ok (.iconst 1, 1) := by decide +kernel
theorem dX7_setOut_204 : decode cX7_setOut 204 = .ok (.invokevirtual 87, 3) := by decide +kernel
theorem dX7_setOut_207 : decode cX7_setOut 207 = .ok (.if_icmp .ne 30, 3) := by decide +kernel
theorem dX7_setOut_210 : decode cX7_setOut 210 = .ok (.aload_n 0, 1) := by decide +kernel
theorem dX7_setOut_211 : decode cX7_setOut 211 = .ok (.iload 7, 2) := by decide +kernel
theorem dX7_setOut_213 : decode cX7_setOut 213 = .ok (.iconst 0, 1) := by decide +kernel
theorem dX7_setOut_214 : decode cX7_setOut 214 = .ok (.invokevirtual 87, 3) := by decide +kernel
theorem dX7_setOut_217 : decode cX7_setOut 217 = .ok (.aload_n 0, 1) := by decide +kernel
theorem dX7_setOut_218 : decode cX7_setOut 218 = .ok (.iload 6, 2) := by decide +kernel
theorem dX7_setOut_220 : decode cX7_setOut 220 = .ok (.iconst 1, 1) := by decide +kernel
theorem dX7_setOut_221 : decode cX7_setOut 221 = .ok (.invokevirtual 87, 3) := by decide +kernel
theorem dX7_setOut_224 : decode cX7_setOut 224 = .ok (.if_icmp .ne 13, 3) := by decide +kernel
theorem dX7_setOut_227 : decode cX7_setOut 227 = .ok (.aload_n 0, 1) := by decide +kernel
theorem dX7_setOut_228 : decode cX7_setOut 228 = .ok (.getfield 25, 3) := by decide +kernel
theorem dX7_setOut_231 : decode cX7_setOut 231 = .ok (.iconst 1, 1) := by decide +kernel
theorem dX7_setOut_232 : decode cX7_setOut 232 = .ok (.dup2, 1) := by decide +kernel
theorem dX7_setOut_233 : decode cX7_setOut 233 = .ok (.iaload, 1) := by decide +kernel
theorem dX7_setOut_234 : decode cX7_setOut 234 = .ok (.iconst 1, 1) := by decide +kernel
theorem dX7_setOut_235 : decode cX7_setOut 235 = .ok (.iadd, 1) := by decide +kernel
theorem dX7_setOut_236 : decode cX7_setOut 236 = .ok (.iastore, 1) := by decide +kernel
theorem dX7_setOut_237 : decode cX7_setOut 237 = .ok (.iinc 7 1, 3) := by decide +kernel
theorem dX7_setOut_240 : decode cX7_setOut 240 = .ok (.goto (-106), 3) := by decide +kernel
theorem dX7_setOut_243 : decode cX7_setOut 243 = .ok (.iinc 6 1, 3) := by decide +kernel
theorem dX7_setOut_246 : decode cX7_setOut 246 = .ok (.goto (-138), 3) := by decide +kernel
theorem dX7_setOut_249 : decode cX7_setOut 249 = .ok (.aload_n 0, 1) := by decide +kernel
theorem dX7_setOut_250 : decode cX7_setOut 250 = .ok (.iload_n 1, 1) := by decide +kernel
theorem dX7_setOut_251 : decode cX7_setOut 251 = .ok (.iconst 2, 1) := by decide +kernel
theorem dX7_setOut_252 : decode cX7_setOut 252 = .ok (.iload 4, 2) := by decide +kernel
theorem dX7_setOut_254 : decode cX7_setOut 254 = .ok (.invokevirtual 160, 3) := by decide +kernel
theorem dX7_setOut_257 : decode cX7_setOut 257 = .ok (.aload_n 0, 1) := by decide +kernel
theorem dX7_setOut_258 : decode cX7_setOut 258 = .ok (.iload_n 1, 1) := by decide +kernel
theorem dX7_setOut_259 : decode cX7_setOut 259 = .ok (.iconst 3, 1) := by decide +kernel
theorem dX7_setOut_260 : decode cX7_setOut 260 = .ok (.aload_n 0, 1) := by decide +kernel
theorem dX7_setOut_261 : decode cX7_setOut 261 = .ok (.iload_n 2, 1) := by decide +kernel
theorem dX7_setOut_262 : decode cX7_setOut 262 = .ok (.iload_n 3, 1) := by decide +kernel
theorem dX7_setOut_263 : decode cX7_setOut 263 = .ok (.invokevirtual 108, 3) := by decide +kernel
theorem dX7_setOut_266 : decode cX7_setOut 266 = .ok (.invokevirtual 160, 3) := by decide +kernel
theorem dX7_setOut_269 : decode cX7_setOut 269 = .ok (.return_, 1) := by decide +kernel
set_option maxRecDepth 20000 in
theorem ggX7_hourOn_X7_reckon : GoodIn wsX7_hourOn wsX7_reckon := goodIn_r _ [8, 9, 10, 11, 12, 13, 14, 15, 16, 17, 18, 19, 20, 7, 21, 1, 22, 23, 24, 25, 26, 27, 28, 29, 30, 31, 32, 33, 34, 35, 36, 37, 38, 39, 40, 41, 42, 43, 94, 95, 96, 97, 98, 99, 100, 101, 102, 103, 104, 105, 106, 107] (by decide +kernel) (by decide +kernel)
set_option maxRecDepth 20000 in
theorem gX7_hourOn_X7_reckon : GoodIn wsX7_hourOn (wsV RX7 141 RX7 yX7_reckon wsX7_reckon) := goodIn_app (goodIn_of _ (by decide +kernel)) ggX7_hourOn_X7_reckon
set_option maxRecDepth 20000 in
theorem ggX7_hourOn_X7_mu : GoodIn wsX7_hourOn wsX7_mu := goodIn_r _ [25, 26, 94, 95, 96, 97, 98, 99, 100, 101, 102, 103, 104, 105, 106, 107] (by decide +kernel) (by decide +kernel)
set_option maxRecDepth 20000 in
theorem gX7_hourOn_X7_mu : GoodIn wsX7_hourOn (wsV RX7 90 RX7 yX7_mu wsX7_mu) := goodIn_app (goodIn_of _ (by decide +kernel)) ggX7_hourOn_X7_mu
set_option maxRecDepth 20000 in
theorem ggX7_hourOn_X7_setMu : GoodIn wsX7_hourOn wsX7_setMu := goodIn_r _ [47, 26, 94, 95, 96, 97, 98, 99, 100, 101, 102, 103, 104, 105, 106, 107] (by decide +kernel) (by decide +kernel)
set_option maxRecDepth 20000 in
theorem gX7_hourOn_X7_setMu : GoodIn wsX7_hourOn (wsV RX7 160 RX7 yX7_setMu wsX7_setMu) := goodIn_app (goodIn_of _ (by decide +kernel)) ggX7_hourOn_X7_setMu
set_option maxRecDepth 20000 in
theorem ggX7_hourOn_X7_le : GoodIn wsX7_hourOn wsX7_le := goodIn_r _ [51, 52, 94, 95, 96, 97, 98, 99, 100, 101, 102, 103, 104, 105, 106, 107] (by decide +kernel) (by decide +kernel)
set_option maxRecDepth 20000 in
theorem gX7_hourOn_X7_le : GoodIn wsX7_hourOn (wsV RX7 87 RX7 yX7_le wsX7_le) := goodIn_app (goodIn_of _ (by decide +kernel)) ggX7_hourOn_X7_le
set_option maxRecDepth 20000 in
theorem ggX7_hourOn_X7_unload : GoodIn wsX7_hourOn wsX7_unload := goodIn_r _ [56, 57, 58, 59, 7, 60, 52, 61, 62, 63, 64, 48, 49, 50, 51, 65, 66, 67, 68, 3, 94, 95, 96, 97, 98, 99, 100, 101, 102, 103, 104, 105, 106, 107] (by decide +kernel) (by decide +kernel)
set_option maxRecDepth 20000 in
theorem gX7_hourOn_X7_unload : GoodIn wsX7_hourOn (wsV RX7 163 RX7 yX7_unload wsX7_unload) := goodIn_app (goodIn_of _ (by decide +kernel)) ggX7_hourOn_X7_unload
set_option maxRecDepth 20000 in
theorem ggX7_hourOn_X7_handOn : GoodIn wsX7_hourOn wsX7_handOn := goodIn_r _ [72, 17, 73, 74, 75, 76, 7, 77, 94, 95, 96, 97, 98, 99, 100, 101, 102, 103, 104, 105, 106, 107] (by decide +kernel) (by decide +kernel)
set_option maxRecDepth 20000 in
theorem gX7_hourOn_X7_handOn : GoodIn wsX7_hourOn (wsV RX7 131 RX7 yX7_handOn wsX7_handOn) := goodIn_app (goodIn_of _ (by decide +kernel)) ggX7_hourOn_X7_handOn
set_option maxRecDepth 20000 in
theorem ggX7_hourOn_X7_setLe : GoodIn wsX7_hourOn wsX7_setLe := goodIn_r _ [60, 52, 94, 95, 96, 97, 98, 99, 100, 101, 102, 103, 104, 105, 106, 107] (by decide +kernel) (by decide +kernel)
set_option maxRecDepth 20000 in
theorem gX7_hourOn_X7_setLe : GoodIn wsX7_hourOn (wsV RX7 128 RX7 yX7_setLe wsX7_setLe) := goodIn_app (goodIn_of _ (by decide +kernel)) ggX7_hourOn_X7_setLe
set_option maxRecDepth 20000 in
theorem ggX7_hourOn_X7_has : GoodIn wsX7_hourOn wsX7_has := goodIn_r _ [77] (by decide +kernel) (by decide +kernel)
set_option maxRecDepth 20000 in
theorem gX7_hourOn_X7_has : GoodIn wsX7_hourOn (va_wsS RX7 121 yX7_has wsX7_has) := goodIn_app (goodIn_of _ (by decide +kernel)) ggX7_hourOn_X7_has
set_option maxRecDepth 20000 in
theorem ggX7_hourOn_X7_end : GoodIn wsX7_hourOn wsX7_end := goodIn_r _ [68, 3, 57, 58, 59, 7, 60, 52, 94, 95, 96, 97, 98, 99, 100, 101, 102, 103, 104, 105, 106, 107] (by decide +kernel) (by decide +kernel)
set_option maxRecDepth 20000 in
theorem gX7_hourOn_X7_end : GoodIn wsX7_hourOn (wsV RX7 150 RX7 yX7_end wsX7_end) := goodIn_app (goodIn_of _ (by decide +kernel)) ggX7_hourOn_X7_end
set_option maxRecDepth 20000 in
theorem ggX7_hourOn_X7_setOut : GoodIn wsX7_hourOn wsX7_setOut := goodIn_r _ [81, 2, 3, 22, 23, 24, 7, 25, 26, 40, 41, 42, 43, 27, 28, 29, 30, 31, 82, 83, 84, 85, 86, 87, 88, 89, 48, 49, 50, 51, 52, 61, 62, 63, 64, 90, 91, 92, 93, 11, 57, 58, 59, 60, 44, 45, 46, 47, 32, 33, 34, 35, 36, 37, 38, 15, 39, 94, 95, 96, 97, 98, 99, 100, 101, 102, 103, 104, 105, 106, 107] (by decide +kernel) (by decide +kernel)
set_option maxRecDepth 20000 in
theorem gX7_hourOn_X7_setOut : GoodIn wsX7_hourOn (wsV RX7 166 RX7 yX7_setOut wsX7_setOut) := goodIn_app (goodIn_of _ (by decide +kernel)) ggX7_hourOn_X7_setOut
theorem dX7_hourOn_0 : decode cX7_hourOn 0 = .ok (.iconst 0, 1) := by decide +kernel
theorem dX7_hourOn_1 : decode cX7_hourOn 1 = .ok (.istore_n 1, 1) := by decide +kernel
theorem dX7_hourOn_2 : decode cX7_hourOn 2 = .ok (.aload_n 0, 1) := by decide +kernel
theorem dX7_hourOn_3 : decode cX7_hourOn 3 = .ok (.invokevirtual 141, 3) := by decide +kernel
theorem dX7_hourOn_6 : decode cX7_hourOn 6 = .ok (.iconst 0, 1) := by decide +kernel
theorem dX7_hourOn_7 : decode cX7_hourOn 7 = .ok (.istore_n 2, 1) := by decide +kernel
theorem dX7_hourOn_8 : decode cX7_hourOn 8 = .ok (.iload_n 2, 1) := by decide +kernel
theorem dX7_hourOn_9 : decode cX7_hourOn 9 = .ok (.aload_n 0, 1) := by decide +kernel
theorem dX7_hourOn_10 : decode cX7_hourOn 10 = .ok (.getfield 73, 3) := by decide +kernel
theorem dX7_hourOn_13 : decode cX7_hourOn 13 = .ok (.if_icmp .ge 106, 3) := by decide +kernel
theorem dX7_hourOn_16 : decode cX7_hourOn 16 = .ok (.aload_n 0, 1) := by decide +kernel
theorem dX7_hourOn_17 : decode cX7_hourOn 17 = .ok (.iload_n 2, 1) := by decide +kernel
theorem dX7_hourOn_18 : decode cX7_hourOn 18 = .ok (.iconst 3, 1) := by decide +kernel
theorem dX7_hourOn_19 : decode cX7_hourOn 19 = .ok (.invokevirtual 90, 3) := by decide +kernel
theorem dX7_hourOn_22 : decode cX7_hourOn 22 = .ok (.ifCond .ne 6, 3) := by decide +kernel
theorem dX7_hourOn_25 : decode cX7_hourOn 25 = .ok (.goto 88, 3) := by decide +kernel
theorem dX7_hourOn_28 : decode cX7_hourOn 28 = .ok (.aload_n 0, 1) := by decide +kernel
theorem dX7_hourOn_29 : decode cX7_hourOn 29 = .ok (.iload_n 2, 1) := by decide +kernel
theorem dX7_hourOn_30 : decode cX7_hourOn 30 = .ok (.iconst 3, 1) := by decide +kernel
theorem dX7_hourOn_31 : decode cX7_hourOn 31 = .ok (.aload_n 0, 1) := by decide +kernel
theorem dX7_hourOn_32 : decode cX7_hourOn 32 = .ok (.iload_n 2, 1) := by decide +kernel
theorem dX7_hourOn_33 : decode cX7_hourOn 33 = .ok (.iconst 3, 1) := by decide +kernel
theorem dX7_hourOn_34 : decode cX7_hourOn 34 = .ok (.invokevirtual 90, 3) := by decide +kernel
theorem dX7_hourOn_37 : decode cX7_hourOn 37 = .ok (.iconst 1, 1) := by decide +kernel
theorem dX7_hourOn_38 : decode cX7_hourOn 38 = .ok (.isub, 1) := by decide +kernel
theorem dX7_hourOn_39 : decode cX7_hourOn 39 = .ok (.invokevirtual 160, 3) := by decide +kernel
theorem dX7_hourOn_42 : decode cX7_hourOn 42 = .ok (.aload_n 0, 1) := by decide +kernel
theorem dX7_hourOn_43 : decode cX7_hourOn 43 = .ok (.iload_n 2, 1) := by decide +kernel
theorem dX7_hourOn_44 : decode cX7_hourOn 44 = .ok (.iconst 4, 1) := by decide +kernel
theorem dX7_hourOn_45 : decode cX7_hourOn 45 = .ok (.aload_n 0, 1) := by decide +kernel
theorem dX7_hourOn_46 : decode cX7_hourOn 46 = .ok (.iload_n 2, 1) := by decide +kernel
theorem dX7_hourOn_47 : decode cX7_hourOn 47 = .ok (.iconst 4, 1) := by decide +kernel
theorem dX7_hourOn_48 : decode cX7_hourOn 48 = .ok (.invokevirtual 90, 3) := by decide +kernel
theorem dX7_hourOn_51 : decode cX7_hourOn 51 = .ok (.iconst 1, 1) := by decide +kernel
theorem dX7_hourOn_52 : decode cX7_hourOn 52 = .ok (.iadd, 1) := by decide +kernel
theorem dX7_hourOn_53 : decode cX7_hourOn 53 = .ok (.invokevirtual 160, 3) := by decide +kernel
theorem dX7_hourOn_56 : decode cX7_hourOn 56 = .ok (.iconst 0, 1) := by decide +kernel
theorem dX7_hourOn_57 : decode cX7_hourOn 57 = .ok (.istore_n 3, 1) := by decide +kernel
theorem dX7_hourOn_58 : decode cX7_hourOn 58 = .ok (.iload_n 3, 1) := by decide +kernel
theorem dX7_hourOn_59 : decode cX7_hourOn 59 = .ok (.aload_n 0, 1) := by decide +kernel
theorem dX7_hourOn_60 : decode cX7_hourOn 60 = .ok (.getfield 48, 3) := by decide +kernel
theorem dX7_hourOn_63 : decode cX7_hourOn 63 = .ok (.if_icmp .ge 50, 3) := by decide +kernel
theorem dX7_hourOn_66 : decode cX7_hourOn 66 = .ok (.aload_n 0, 1) := by decide +kernel
theorem dX7_hourOn_67 : decode cX7_hourOn 67 = .ok (.iload_n 2, 1) := by decide +kernel
theorem dX7_hourOn_68 : decode cX7_hourOn 68 = .ok (.iconst 3, 1) := by decide +kernel
theorem dX7_hourOn_69 : decode cX7_hourOn 69 = .ok (.invokevirtual 90, 3) := by decide +kernel
theorem dX7_hourOn_72 : decode cX7_hourOn 72 = .ok (.ifCond .ne 41, 3) := by decide +kernel
theorem dX7_hourOn_75 : decode cX7_hourOn 75 = .ok (.aload_n 0, 1) := by decide +kernel
theorem dX7_hourOn_76 : decode cX7_hourOn 76 = .ok (.iload_n 3, 1) := by decide +kernel
theorem dX7_hourOn_77 : decode cX7_hourOn 77 = .ok (.iconst 5, 1) := by decide +kernel
theorem dX7_hourOn_78 : decode cX7_hourOn 78 = .ok (.invokevirtual 87, 3) := by decide +kernel
theorem dX7_hourOn_81 : decode cX7_hourOn 81 = .ok (.iload_n 2, 1) := by decide +kernel
theorem dX7_hourOn_82 : decode cX7_hourOn 82 = .ok (.if_icmp .ne 25, 3) := by decide +kernel
theorem dX7_hourOn_85 : decode cX7_hourOn 85 = .ok (.iload_n 1, 1) := by decide +kernel
theorem dX7_hourOn_86 : decode cX7_hourOn 86 = .ok (.aload_n 0, 1) := by decide +kernel
theorem dX7_hourOn_87 : decode cX7_hourOn 87 = .ok (.iload_n 3, 1) := by decide +kernel
theorem dX7_hourOn_88 : decode cX7_hourOn 88 = .ok (.aload_n 0, 1) := by decide +kernel
theorem dX7_hourOn_89 : decode cX7_hourOn 89 = .ok (.iload_n 2, 1) := by decide +kernel
theorem dX7_hourOn_90 : decode cX7_hourOn 90 = .ok (.iconst 2, 1) := by decide +kernel
theorem dX7_hourOn_91 : decode cX7_hourOn 91 = .ok (.invokevirtual 90, 3) := by decide +kernel
theorem dX7_hourOn_94 : decode cX7_hourOn 94 = .ok (.invokevirtual 163, 3) := by decide +kernel
theorem dX7_hourOn_97 : decode cX7_hourOn 97 = .ok (.ifCond .eq 7, 3) := by decide +kernel
theorem dX7_hourOn_100 : decode cX7_hourOn 100 = .ok (.iconst 1, 1) := by decide +kernel
theorem dX7_hourOn_101 : decode cX7_hourOn 101 = .ok (.goto 4, 3) := by decide +kernel
theorem dX7_hourOn_104 : decode cX7_hourOn 104 = .ok (.iconst 0, 1) := by decide +kernel
theorem dX7_hourOn_105 : decode cX7_hourOn 105 = .ok (.iadd, 1) := by decide +kernel
theorem dX7_hourOn_106 : decode cX7_hourOn 106 = .ok (.istore_n 1, 1) := by decide +kernel
theorem dX7_hourOn_107 : decode cX7_hourOn 107 = .ok (.iinc 3 1, 3) := by decide +kernel
theorem dX7_hourOn_110 : decode cX7_hourOn 110 = .ok (.goto (-52), 3) := by decide +kernel
theorem dX7_hourOn_113 : decode cX7_hourOn 113 = .ok (.iinc 2 1, 3) := by decide +kernel
theorem dX7_hourOn_116 : decode cX7_hourOn 116 = .ok (.goto (-108), 3) := by decide +kernel
theorem dX7_hourOn_119 : decode cX7_hourOn 119 = .ok (.iconst 0, 1) := by decide +kernel
theorem dX7_hourOn_120 : decode cX7_hourOn 120 = .ok (.istore_n 2, 1) := by decide +kernel
theorem dX7_hourOn_121 : decode cX7_hourOn 121 = .ok (.iload_n 2, 1) := by decide +kernel
theorem dX7_hourOn_122 : decode cX7_hourOn 122 = .ok (.aload_n 0, 1) := by decide +kernel
theorem dX7_hourOn_123 : decode cX7_hourOn 123 = .ok (.getfield 48, 3) := by decide +kernel
theorem dX7_hourOn_126 : decode cX7_hourOn 126 = .ok (.if_icmp .ge 111, 3) := by decide +kernel
theorem dX7_hourOn_129 : decode cX7_hourOn 129 = .ok (.aload_n 0, 1) := by decide +kernel
theorem dX7_hourOn_130 : decode cX7_hourOn 130 = .ok (.iload_n 2, 1) := by decide +kernel
theorem dX7_hourOn_131 : decode cX7_hourOn 131 = .ok (.bipush 6, 2) := by decide +kernel
theorem dX7_hourOn_133 : decode cX7_hourOn 133 = .ok (.invokevirtual 87, 3) := by decide +kernel
theorem dX7_hourOn_136 : decode cX7_hourOn 136 = .ok (.ifCond .ne 6, 3) := by decide +kernel
theorem dX7_hourOn_139 : decode cX7_hourOn 139 = .ok (.goto 92, 3) := by decide +kernel
theorem dX7_hourOn_142 : decode cX7_hourOn 142 = .ok (.aload_n 0, 1) := by decide +kernel
theorem dX7_hourOn_143 : decode cX7_hourOn 143 = .ok (.iload_n 2, 1) := by decide +kernel
theorem dX7_hourOn_144 : decode cX7_hourOn 144 = .ok (.bipush 10, 2) := by decide +kernel
theorem dX7_hourOn_146 : decode cX7_hourOn 146 = .ok (.aload_n 0, 1) := by decide +kernel
theorem dX7_hourOn_147 : decode cX7_hourOn 147 = .ok (.aload_n 0, 1) := by decide +kernel
theorem dX7_hourOn_148 : decode cX7_hourOn 148 = .ok (.iload_n 2, 1) := by decide +kernel
theorem dX7_hourOn_149 : decode cX7_hourOn 149 = .ok (.bipush 10, 2) := by decide +kernel
theorem dX7_hourOn_151 : decode cX7_hourOn 151 = .ok (.invokevirtual 87, 3) := by decide +kernel
theorem dX7_hourOn_154 : decode cX7_hourOn 154 = .ok (.invokevirtual 131, 3) := by decide +kernel
theorem dX7_hourOn_157 : decode cX7_hourOn 157 = .ok (.invokevirtual 128, 3) := by decide +kernel
theorem dX7_hourOn_160 : decode cX7_hourOn 160 = .ok (.aload_n 0, 1) := by decide +kernel
theorem dX7_hourOn_161 : decode cX7_hourOn 161 = .ok (.iload_n 2, 1) := by decide +kernel
theorem dX7_hourOn_162 : decode cX7_hourOn 162 = .ok (.iconst 3, 1) := by decide +kernel
theorem dX7_hourOn_163 : decode cX7_hourOn 163 = .ok (.invokevirtual 87, 3) := by decide +kernel
theorem dX7_hourOn_166 : decode cX7_hourOn 166 = .ok (.ifCond .ne 65, 3) := by decide +kernel
theorem dX7_hourOn_169 : decode cX7_hourOn 169 = .ok (.aload_n 0, 1) := by decide +kernel
theorem dX7_hourOn_170 : decode cX7_hourOn 170 = .ok (.iload_n 2, 1) := by decide +kernel
theorem dX7_hourOn_171 : decode cX7_hourOn 171 = .ok (.bipush 7, 2) := by decide +kernel
theorem dX7_hourOn_173 : decode cX7_hourOn 173 = .ok (.invokevirtual 87, 3) := by decide +kernel
theorem dX7_hourOn_176 : decode cX7_hourOn 176 = .ok (.iconst 1, 1) := by decide +kernel
theorem dX7_hourOn_177 : decode cX7_hourOn 177 = .ok (.if_icmp .eq 54, 3) := by decide +kernel
theorem dX7_hourOn_180 : decode cX7_hourOn 180 = .ok (.aload_n 0, 1) := by decide +kernel
theorem dX7_hourOn_181 : decode cX7_hourOn 181 = .ok (.iload_n 2, 1) := by decide +kernel
theorem dX7_hourOn_182 : decode cX7_hourOn 182 = .ok (.bipush 10, 2) := by decide +kernel
theorem dX7_hourOn_184 : decode cX7_hourOn 184 = .ok (.invokevirtual 87, 3) := by decide +kernel
theorem dX7_hourOn_187 : decode cX7_hourOn 187 = .ok (.aload_n 0, 1) := by decide +kernel
theorem dX7_hourOn_188 : decode cX7_hourOn 188 = .ok (.iload_n 2, 1) := by decide +kernel
theorem dX7_hourOn_189 : decode cX7_hourOn 189 = .ok (.iconst 4, 1) := by decide +kernel
theorem dX7_hourOn_190 : decode cX7_hourOn 190 = .ok (.invokevirtual 87, 3) := by decide +kernel
theorem dX7_hourOn_193 : decode cX7_hourOn 193 = .ok (.invokestatic 121, 3) := by decide +kernel
theorem dX7_hourOn_196 : decode cX7_hourOn 196 = .ok (.ifCond .ne 6, 3) := by decide +kernel
theorem dX7_hourOn_199 : decode cX7_hourOn 199 = .ok (.goto 32, 3) := by decide +kernel
theorem dX7_hourOn_202 : decode cX7_hourOn 202 = .ok (.aload_n 0, 1) := by decide +kernel
theorem dX7_hourOn_203 : decode cX7_hourOn 203 = .ok (.iload_n 2, 1) := by decide +kernel
theorem dX7_hourOn_204 : decode cX7_hourOn 204 = .ok (.bipush 7, 2) := by decide +kernel
theorem dX7_hourOn_206 : decode cX7_hourOn 206 = .ok (.iconst 1, 1) := by decide +kernel
theorem dX7_hourOn_207 : decode cX7_hourOn 207 = .ok (.invokevirtual 128, 3) := by decide +kernel
theorem dX7_hourOn_210 : decode cX7_hourOn 210 = .ok (.aload_n 0, 1) := by decide +kernel
theorem dX7_hourOn_211 : decode cX7_hourOn 211 = .ok (.iload_n 2, 1) := by decide +kernel
theorem dX7_hourOn_212 : decode cX7_hourOn 212 = .ok (.iconst 4, 1) := by decide +kernel
theorem dX7_hourOn_213 : decode cX7_hourOn 213 = .ok (.invokevirtual 87, 3) := by decide +kernel
theorem dX7_hourOn_216 : decode cX7_hourOn 216 = .ok (.aload_n 0, 1) := by decide +kernel
theorem dX7_hourOn_217 : decode cX7_hourOn 217 = .ok (.iload_n 2, 1) := by decide +kernel
theorem dX7_hourOn_218 : decode cX7_hourOn 218 = .ok (.iconst 0, 1) := by decide +kernel
theorem dX7_hourOn_219 : decode cX7_hourOn 219 = .ok (.invokevirtual 87, 3) := by decide +kernel
theorem dX7_hourOn_222 : decode cX7_hourOn 222 = .ok (.if_icmp .ne 9, 3) := by decide +kernel
theorem dX7_hourOn_225 : decode cX7_hourOn 225 = .ok (.aload_n 0, 1) := by decide +kernel
theorem dX7_hourOn_226 : decode cX7_hourOn 226 = .ok (.iload_n 2, 1) := by decide +kernel
theorem dX7_hourOn_227 : decode cX7_hourOn 227 = .ok (.iconst 3, 1) := by decide +kernel
theorem dX7_hourOn_228 : decode cX7_hourOn 228 = .ok (.invokevirtual 150, 3) := by decide +kernel
theorem dX7_hourOn_231 : decode cX7_hourOn 231 = .ok (.iinc 2 1, 3) := by decide +kernel
theorem dX7_hourOn_234 : decode cX7_hourOn 234 = .ok (.goto (-113), 3) := by decide +kernel
theorem dX7_hourOn_237 : decode cX7_hourOn 237 = .ok (.iconst 0, 1) := by decide +kernel
theorem dX7_hourOn_238 : decode cX7_hourOn 238 = .ok (.istore_n 2, 1) := by decide +kernel
theorem dX7_hourOn_239 : decode cX7_hourOn 239 = .ok (.iload_n 2, 1) := by decide +kernel
theorem dX7_hourOn_240 : decode cX7_hourOn 240 = .ok (.aload_n 0, 1) := by decide +kernel
theorem dX7_hourOn_241 : decode cX7_hourOn 241 = .ok (.getfield 73, 3) := by decide +kernel
theorem dX7_hourOn_244 : decode cX7_hourOn 244 = .ok (.if_icmp .ge 23, 3) := by decide +kernel
theorem dX7_hourOn_247 : decode cX7_hourOn 247 = .ok (.aload_n 0, 1) := by decide +kernel
theorem dX7_hourOn_248 : decode cX7_hourOn 248 = .ok (.iload_n 2, 1) := by decide +kernel
theorem dX7_hourOn_249 : decode cX7_hourOn 249 = .ok (.iconst 3, 1) := by decide +kernel
theorem dX7_hourOn_250 : decode cX7_hourOn 250 = .ok (.invokevirtual 90, 3) := by decide +kernel
theorem dX7_hourOn_253 : decode cX7_hourOn 253 = .ok (.ifCond .ne 8, 3) := by decide +kernel
theorem dX7_hourOn_256 : decode cX7_hourOn 256 = .ok (.aload_n 0, 1) := by decide +kernel
theorem dX7_hourOn_257 : decode cX7_hourOn 257 = .ok (.iload_n 2, 1) := by decide +kernel
theorem dX7_hourOn_258 : decode cX7_hourOn 258 = .ok (.invokevirtual 166, 3) := by decide +kernel
theorem dX7_hourOn_261 : decode cX7_hourOn 261 = .ok (.iinc 2 1, 3) := by decide +kernel
theorem dX7_hourOn_264 : decode cX7_hourOn 264 = .ok (.goto (-25), 3) := by decide +kernel
theorem dX7_hourOn_267 : decode cX7_hourOn 267 = .ok (.aload_n 0, 1) := by decide +kernel
theorem dX7_hourOn_268 : decode cX7_hourOn 268 = .ok (.getfield 25, 3) := by decide +kernel
theorem dX7_hourOn_271 : decode cX7_hourOn 271 = .ok (.iconst 0, 1) := by decide +kernel
theorem dX7_hourOn_272 : decode cX7_hourOn 272 = .ok (.dup2, 1) := by decide +kernel
theorem dX7_hourOn_273 : decode cX7_hourOn 273 = .ok (.iaload, 1) := by decide +kernel
theorem dX7_hourOn_274 : decode cX7_hourOn 274 = .ok (.iconst 1, 1) := by decide +kernel
theorem dX7_hourOn_275 : decode cX7_hourOn 275 = .ok (.iadd, 1) := by decide +kernel
theorem dX7_hourOn_276 : decode cX7_hourOn 276 = .ok (.iastore, 1) := by decide +kernel
theorem dX7_hourOn_277 : decode cX7_hourOn 277 = .ok (.iload_n 1, 1) := by decide +kernel
theorem dX7_hourOn_278 : decode cX7_hourOn 278 = .ok (.ireturn, 1) := by decide +kernel
set_option maxRecDepth 20000 in
theorem ggX7_pass_X7_isIn : GoodIn wsX7_pass wsX7_isIn := goodIn_r _ [5] (by decide +kernel) (by decide +kernel)
set_option maxRecDepth 20000 in
theorem gX7_pass_X7_isIn : GoodIn wsX7_pass (va_wsS RX7 41 yX7_isIn wsX7_isIn) := goodIn_app (goodIn_of _ (by decide +kernel)) ggX7_pass_X7_isIn
set_option maxRecDepth 20000 in
theorem ggX7_pass_X7_fail : GoodIn wsX7_pass wsX7_fail := goodIn_r _ [9, 1, 106, 107, 108, 109, 110, 111, 112, 113, 114, 115, 116, 117, 118, 119] (by decide +kernel) (by decide +kernel)
set_option maxRecDepth 20000 in
theorem gX7_pass_X7_fail : GoodIn wsX7_pass (wsV RX7 51 RX7 yX7_fail wsX7_fail) := goodIn_app (goodIn_of _ (by decide +kernel)) ggX7_pass_X7_fail
set_option maxRecDepth 20000 in
theorem ggX7_pass_X7_hourOn : GoodIn wsX7_pass wsX7_hourOn := goodIn_r _ [13, 14, 15, 16, 17, 18, 19, 4, 20, 21, 22, 23, 24, 25, 26, 27, 28, 29, 30, 31, 32, 33, 34, 35, 36, 37, 38, 39, 40, 41, 42, 43, 44, 45, 46, 47, 48, 49, 50, 51, 52, 53, 54, 55, 56, 57, 58, 59, 60, 61, 62, 63, 64, 65, 66, 67, 68, 69, 70, 71, 72, 73, 74, 75, 76, 77, 78, 79, 80, 81, 82, 83, 84, 85, 86, 87, 88, 89, 90, 91, 92, 93, 94, 95, 96, 97, 98, 99, 100, 101, 102, 103, 104, 105, 106, 107, 108, 109, 110, 111, 112, 113, 114, 115, 116, 117, 118, 119] (by decide +kernel) (by decide +kernel)
set_option maxRecDepth 20000 in
theorem gX7_pass_X7_hourOn : GoodIn wsX7_pass (wsV RX7 170 RX7 yX7_hourOn wsX7_hourOn) := goodIn_app (goodIn_of _ (by decide +kernel)) ggX7_pass_X7_hourOn
theorem dX7_pass_0 : decode cX7_pass 0 = .ok (.aload_n 0, 1) := by decide +kernel
theorem dX7_pass_1 : decode cX7_pass 1 = .ok (.iconst 0, 1) := by decide +kernel
theorem dX7_pass_2 : decode cX7_pass 2 = .ok (.putfield 34, 3) := by decide +kernel
theorem dX7_pass_5 : decode cX7_pass 5 = .ok (.iload_n 1, 1) := by decide +kernel
theorem dX7_pass_6 : decode cX7_pass 6 = .ok (.iconst 1, 1) := by decide +kernel
theorem dX7_pass_7 : decode cX7_pass 7 = .ok (.bipush 100, 2) := by decide +kernel
theorem dX7_pass_9 : decode cX7_pass 9 = .ok (.invokestatic 41, 3) := by decide +kernel
theorem dX7_pass_12 : decode cX7_pass 12 = .ok (.ifCond .ne 9, 3) := by decide +kernel
theorem dX7_pass_15 : decode cX7_pass 15 = .ok (.aload_n 0, 1) := by decide +kernel
theorem dX7_pass_16 : decode cX7_pass 16 = .ok (.iconst 1, 1) := by decide +kernel
theorem dX7_pass_17 : decode cX7_pass 17 = .ok (.invokevirtual 51, 3) := by decide +kernel
theorem dX7_pass_20 : decode cX7_pass 20 = .ok (.ireturn, 1) := by decide +kernel
theorem dX7_pass_21 : decode cX7_pass 21 = .ok (.iconst 0, 1) := by decide +kernel
theorem dX7_pass_22 : decode cX7_pass 22 = .ok (.istore_n 2, 1) := by decide +kernel
theorem dX7_pass_23 : decode cX7_pass 23 = .ok (.iconst 0, 1) := by decide +kernel
theorem dX7_pass_24 : decode cX7_pass 24 = .ok (.istore_n 3, 1) := by decide +kernel
theorem dX7_pass_25 : decode cX7_pass 25 = .ok (.iload_n 3, 1) := by decide +kernel
theorem dX7_pass_26 : decode cX7_pass 26 = .ok (.iload_n 1, 1) := by decide +kernel
theorem dX7_pass_27 : decode cX7_pass 27 = .ok (.if_icmp .ge 16, 3) := by decide +kernel
theorem dX7_pass_30 : decode cX7_pass 30 = .ok (.iload_n 2, 1) := by decide +kernel
theorem dX7_pass_31 : decode cX7_pass 31 = .ok (.aload_n 0, 1) := by decide +kernel
theorem dX7_pass_32 : decode cX7_pass 32 = .ok (.invokevirtual 170, 3) := by decide +kernel
theorem dX7_pass_35 : decode cX7_pass 35 = .ok (.iadd, 1) := by decide +kernel
theorem dX7_pass_36 : decode cX7_pass 36 = .ok (.istore_n 2, 1) := by decide +kernel
theorem dX7_pass_37 : decode cX7_pass 37 = .ok (.iinc 3 1, 3) := by decide +kernel
theorem dX7_pass_40 : decode cX7_pass 40 = .ok (.goto (-15), 3) := by decide +kernel
theorem dX7_pass_43 : decode cX7_pass 43 = .ok (.iload_n 2, 1) := by decide +kernel
theorem dX7_pass_44 : decode cX7_pass 44 = .ok (.ireturn, 1) := by decide +kernel
set_option maxRecDepth 20000 in
theorem ggX7_counted_X7_lettersAt : GoodIn wsX7_counted wsX7_lettersAt := goodIn_r _ [10, 5, 11, 12, 13, 9, 14, 15, 16, 17, 18, 19, 20, 21, 22, 23, 24, 25, 26, 27, 28, 29] (by decide +kernel) (by decide +kernel)
set_option maxRecDepth 20000 in
theorem gX7_counted_X7_lettersAt : GoodIn wsX7_counted (wsV RX7 93 RX7 yX7_lettersAt wsX7_lettersAt) := goodIn_app (goodIn_of _ (by decide +kernel)) ggX7_counted_X7_lettersAt
theorem dX7_counted_0 : decode cX7_counted 0 = .ok (.iload_n 1, 1) := by decide +kernel
theorem dX7_counted_1 : decode cX7_counted 1 = .ok (.tableswitch 89 0 9 #[55, 62, 67, 72, 77, 89, 89, 89, 89, 82], 55) := by decide +kernel
theorem dX7_counted_56 : decode cX7_counted 56 = .ok (.aload_n 0, 1) := by decide +kernel
theorem dX7_counted_57 : decode cX7_counted 57 = .ok (.getfield 25, 3) := by decide +kernel
theorem dX7_counted_60 : decode cX7_counted 60 = .ok (.iconst 0, 1) := by decide +kernel
theorem dX7_counted_61 : decode cX7_counted 61 = .ok (.iaload, 1) := by decide +kernel
theorem dX7_counted_62 : decode cX7_counted 62 = .ok (.ireturn, 1) := by decide +kernel
theorem dX7_counted_63 : decode cX7_counted 63 = .ok (.aload_n 0, 1) := by decide +kernel
theorem dX7_counted_64 : decode cX7_counted 64 = .ok (.getfield 38, 3) := by decide +kernel
theorem dX7_counted_67 : decode cX7_counted 67 = .ok (.ireturn, 1) := by decide +kernel
theorem dX7_counted_68 : decode cX7_counted 68 = .ok (.aload_n 0, 1) := by decide +kernel
theorem dX7_counted_69 : decode cX7_counted 69 = .ok (.getfield 45, 3) := by decide +kernel
theorem dX7_counted_72 : decode cX7_counted 72 = .ok (.ireturn, 1) := by decide +kernel
theorem dX7_counted_73 : decode cX7_counted 73 = .ok (.aload_n 0, 1) := by decide +kernel
theorem dX7_counted_74 : decode cX7_counted 74 = .ok (.getfield 73, 3) := by decide +kernel
theorem dX7_counted_77 : decode cX7_counted 77 = .ok (.ireturn, 1) := by decide +kernel
theorem dX7_counted_78 : decode cX7_counted 78 = .ok (.aload_n 0, 1) := by decide +kernel
theorem dX7_counted_79 : decode cX7_counted 79 = .ok (.getfield 48, 3) := by decide +kernel
theorem dX7_counted_82 : decode cX7_counted 82 = .ok (.ireturn, 1) := by decide +kernel
theorem dX7_counted_83 : decode cX7_counted 83 = .ok (.aload_n 0, 1) := by decide +kernel
theorem dX7_counted_84 : decode cX7_counted 84 = .ok (.getfield 25, 3) := by decide +kernel
theorem dX7_counted_87 : decode cX7_counted 87 = .ok (.iconst 1, 1) := by decide +kernel
theorem dX7_counted_88 : decode cX7_counted 88 = .ok (.iaload, 1) := by decide +kernel
theorem dX7_counted_89 : decode cX7_counted 89 = .ok (.ireturn, 1) := by decide +kernel
theorem dX7_counted_90 : decode cX7_counted 90 = .ok (.aload_n 0, 1) := by decide +kernel
theorem dX7_counted_91 : decode cX7_counted 91 = .ok (.iload_n 1, 1) := by decide +kernel
theorem dX7_counted_92 : decode cX7_counted 92 = .ok (.iconst 5, 1) := by decide +kernel
theorem dX7_counted_93 : decode cX7_counted 93 = .ok (.isub, 1) := by decide +kernel
theorem dX7_counted_94 : decode cX7_counted 94 = .ok (.iconst (-1), 1) := by decide +kernel
theorem dX7_counted_95 : decode cX7_counted 95 = .ok (.iconst 0, 1) := by decide +kernel
theorem dX7_counted_96 : decode cX7_counted 96 = .ok (.invokevirtual 93, 3) := by decide +kernel
theorem dX7_counted_99 : decode cX7_counted 99 = .ok (.ireturn, 1) := by decide +kernel
set_option maxRecDepth 20000 in
theorem ggX7_count_X7_isIn : GoodIn wsX7_count wsX7_isIn := goodIn_r _ [5] (by decide +kernel) (by decide +kernel)
set_option maxRecDepth 20000 in
theorem gX7_count_X7_isIn : GoodIn wsX7_count (va_wsS RX7 41 yX7_isIn wsX7_isIn) := goodIn_app (goodIn_of _ (by decide +kernel)) ggX7_count_X7_isIn
set_option maxRecDepth 20000 in
theorem ggX7_count_X7_counted : GoodIn wsX7_count wsX7_counted := goodIn_r _ [9, 10, 11, 12, 13, 14, 15, 16, 17, 4, 18, 19, 20, 21, 22, 23, 28, 29, 30, 31, 32, 33, 34, 35, 36, 37, 38, 39, 40, 41] (by decide +kernel) (by decide +kernel)
set_option maxRecDepth 20000 in
theorem gX7_count_X7_counted : GoodIn wsX7_count (wsV RX7 174 RX7 yX7_counted wsX7_counted) := goodIn_app (goodIn_of _ (by decide +kernel)) ggX7_count_X7_counted
set_option maxRecDepth 20000 in
theorem ggX7_count_X7_fail : GoodIn wsX7_count wsX7_fail := goodIn_r _ [27, 1, 28, 29, 30, 31, 32, 33, 34, 35, 36, 37, 38, 39, 40, 41] (by decide +kernel) (by decide +kernel)
set_option maxRecDepth 20000 in
theorem gX7_count_X7_fail : GoodIn wsX7_count (wsV RX7 51 RX7 yX7_fail wsX7_fail) := goodIn_app (goodIn_of _ (by decide +kernel)) ggX7_count_X7_fail
theorem dX7_count_0 : decode cX7_count 0 = .ok (.aload_n 0, 1) := by decide +kernel
theorem dX7_count_1 : decode cX7_count 1 = .ok (.iconst 0, 1) := by decide +kernel
theorem dX7_count_2 : decode cX7_count 2 = .ok (.putfield 34, 3) := by decide +kernel
theorem dX7_count_5 : decode cX7_count 5 = .ok (.iload_n 1, 1) := by decide +kernel
theorem dX7_count_6 : decode cX7_count 6 = .ok (.iconst 0, 1) := by decide +kernel
theorem dX7_count_7 : decode cX7_count 7 = .ok (.bipush 9, 2) := by decide +kernel
theorem dX7_count_9 : decode cX7_count 9 = .ok (.invokestatic 41, 3) := by decide +kernel
theorem dX7_count_12 : decode cX7_count 12 = .ok (.ifCond .eq 11, 3) := by decide +kernel
theorem dX7_count_15 : decode cX7_count 15 = .ok (.aload_n 0, 1) := by decide +kernel
theorem dX7_count_16 : decode cX7_count 16 = .ok (.iload_n 1, 1) := by decide +kernel
theorem dX7_count_17 : decode cX7_count 17 = .ok (.invokevirtual 174, 3) := by decide +kernel
theorem dX7_count_20 : decode cX7_count 20 = .ok (.goto 8, 3) := by decide +kernel
theorem dX7_count_23 : decode cX7_count 23 = .ok (.aload_n 0, 1) := by decide +kernel
theorem dX7_count_24 : decode cX7_count 24 = .ok (.iconst 1, 1) := by decide +kernel
theorem dX7_count_25 : decode cX7_count 25 = .ok (.invokevirtual 51, 3) := by decide +kernel
theorem dX7_count_28 : decode cX7_count 28 = .ok (.ireturn, 1) := by decide +kernel
theorem dX7_kept_0 : decode cX7_kept 0 = .ok (.iconst 3, 1) := by decide +kernel
theorem dX7_kept_1 : decode cX7_kept 1 = .ok (.anewarray 177, 3) := by decide +kernel
theorem dX7_kept_4 : decode cX7_kept 4 = .ok (.dup, 1) := by decide +kernel
theorem dX7_kept_5 : decode cX7_kept 5 = .ok (.iconst 0, 1) := by decide +kernel
theorem dX7_kept_6 : decode cX7_kept 6 = .ok (.aload_n 0, 1) := by decide +kernel
theorem dX7_kept_7 : decode cX7_kept 7 = .ok (.getfield 19, 3) := by decide +kernel
theorem dX7_kept_10 : decode cX7_kept 10 = .ok (.invokevirtual 178, 3) := by decide +kernel
theorem dX7_kept_13 : decode cX7_kept 13 = .ok (.checkcast 177, 3) := by decide +kernel
theorem dX7_kept_16 : decode cX7_kept 16 = .ok (.aastore, 1) := by decide +kernel
theorem dX7_kept_17 : decode cX7_kept 17 = .ok (.dup, 1) := by decide +kernel
theorem dX7_kept_18 : decode cX7_kept 18 = .ok (.iconst 1, 1) := by decide +kernel
theorem dX7_kept_19 : decode cX7_kept 19 = .ok (.aload_n 0, 1) := by decide +kernel
theorem dX7_kept_20 : decode cX7_kept 20 = .ok (.getfield 22, 3) := by decide +kernel
theorem dX7_kept_23 : decode cX7_kept 23 = .ok (.invokevirtual 178, 3) := by decide +kernel
theorem dX7_kept_26 : decode cX7_kept 26 = .ok (.checkcast 177, 3) := by decide +kernel
theorem dX7_kept_29 : decode cX7_kept 29 = .ok (.aastore, 1) := by decide +kernel
theorem dX7_kept_30 : decode cX7_kept 30 = .ok (.dup, 1) := by decide +kernel
theorem dX7_kept_31 : decode cX7_kept 31 = .ok (.iconst 2, 1) := by decide +kernel
theorem dX7_kept_32 : decode cX7_kept 32 = .ok (.aload_n 0, 1) := by decide +kernel
theorem dX7_kept_33 : decode cX7_kept 33 = .ok (.getfield 25, 3) := by decide +kernel
theorem dX7_kept_36 : decode cX7_kept 36 = .ok (.invokevirtual 178, 3) := by decide +kernel
theorem dX7_kept_39 : decode cX7_kept 39 = .ok (.checkcast 177, 3) := by decide +kernel
theorem dX7_kept_42 : decode cX7_kept 42 = .ok (.aastore, 1) := by decide +kernel
theorem dX7_kept_43 : decode cX7_kept 43 = .ok (.areturn, 1) := by decide +kernel
theorem dX7_bringBack_0 : decode cX7_bringBack 0 = .ok (.aload_n 0, 1) := by decide +kernel
theorem dX7_bringBack_1 : decode cX7_bringBack 1 = .ok (.aload_n 1, 1) := by decide +kernel
theorem dX7_bringBack_2 : decode cX7_bringBack 2 = .ok (.iconst 0, 1) := by decide +kernel
theorem dX7_bringBack_3 : decode cX7_bringBack 3 = .ok (.aaload, 1) := by decide +kernel
theorem dX7_bringBack_4 : decode cX7_bringBack 4 = .ok (.putfield 19, 3) := by decide +kernel
theorem dX7_bringBack_7 : decode cX7_bringBack 7 = .ok (.aload_n 0, 1) := by decide +kernel
theorem dX7_bringBack_8 : decode cX7_bringBack 8 = .ok (.aload_n 1, 1) := by decide +kernel
theorem dX7_bringBack_9 : decode cX7_bringBack 9 = .ok (.iconst 1, 1) := by decide +kernel
theorem dX7_bringBack_10 : decode cX7_bringBack 10 = .ok (.aaload, 1) := by decide +kernel
theorem dX7_bringBack_11 : decode cX7_bringBack 11 = .ok (.putfield 22, 3) := by decide +kernel
theorem dX7_bringBack_14 : decode cX7_bringBack 14 = .ok (.aload_n 0, 1) := by decide +kernel
theorem dX7_bringBack_15 : decode cX7_bringBack 15 = .ok (.aload_n 1, 1) := by decide +kernel
theorem dX7_bringBack_16 : decode cX7_bringBack 16 = .ok (.iconst 2, 1) := by decide +kernel
theorem dX7_bringBack_17 : decode cX7_bringBack 17 = .ok (.aaload, 1) := by decide +kernel
theorem dX7_bringBack_18 : decode cX7_bringBack 18 = .ok (.putfield 25, 3) := by decide +kernel
theorem dX7_bringBack_21 : decode cX7_bringBack 21 = .ok (.return_, 1) := by decide +kernel
set_option maxRecDepth 20000 in
theorem ggX7_foresee_X7_isLetter : GoodIn wsX7_foresee wsX7_isLetter := goodIn_r _ [6, 7, 8, 9, 5, 10, 124, 125, 126, 127, 128, 129, 130, 131, 132, 133, 134, 135, 136, 137] (by decide +kernel) (by decide +kernel)
set_option maxRecDepth 20000 in
theorem gX7_foresee_X7_isLetter : GoodIn wsX7_foresee (wsV RX7 125 RX7 yX7_isLetter wsX7_isLetter) := goodIn_app (goodIn_of _ (by decide +kernel)) ggX7_foresee_X7_isLetter
set_option maxRecDepth 20000 in
theorem ggX7_foresee_X7_fail : GoodIn wsX7_foresee wsX7_fail := goodIn_r _ [14, 1, 124, 125, 126, 127, 128, 129, 130, 131, 132, 133, 134, 135, 136, 137] (by decide +kernel) (by decide +kernel)
set_option maxRecDepth 20000 in
theorem gX7_foresee_X7_fail : GoodIn wsX7_foresee (wsV RX7 51 RX7 yX7_fail wsX7_fail) := goodIn_app (goodIn_of _ (by decide +kernel)) ggX7_foresee_X7_fail
set_option maxRecDepth 20000 in
theorem ggX7_foresee_X7_isIn : GoodIn wsX7_foresee wsX7_isIn := goodIn_r _ [10] (by decide +kernel) (by decide +kernel)
set_option maxRecDepth 20000 in
theorem gX7_foresee_X7_isIn : GoodIn wsX7_foresee (va_wsS RX7 41 yX7_isIn wsX7_isIn) := goodIn_app (goodIn_of _ (by decide +kernel)) ggX7_foresee_X7_isIn
set_option maxRecDepth 20000 in
theorem ggX7_foresee_X7_kept : GoodIn wsX7_foresee wsX7_kept := goodIn_r _ [18, 19, 20, 21, 22, 23, 24, 25, 26, 27, 124, 125, 126, 127, 128, 129, 130, 131, 132, 133, 134, 135, 136, 137] (by decide +kernel) (by decide +kernel)
set_option maxRecDepth 20000 in
theorem gX7_foresee_X7_kept : GoodIn wsX7_foresee (wsV RX7 182 RX7 yX7_kept wsX7_kept) := goodIn_app (goodIn_of _ (by decide +kernel)) ggX7_foresee_X7_kept
set_option maxRecDepth 20000 in
theorem ggX7_foresee_X7_hourOn : GoodIn wsX7_foresee wsX7_hourOn := goodIn_r _ [31, 32, 7, 27, 33, 34, 35, 5, 36, 37, 38, 39, 40, 41, 42, 43, 44, 45, 46, 47, 48, 49, 50, 51, 52, 53, 20, 54, 55, 56, 57, 58, 59, 60, 61, 62, 63, 64, 65, 66, 67, 68, 69, 70, 71, 72, 73, 74, 75, 76, 77, 78, 26, 79, 80, 81, 82, 83, 84, 85, 86, 87, 88, 89, 90, 91, 92, 93, 94, 95, 96, 97, 98, 99, 100, 101, 102, 103, 104, 105, 106, 107, 108, 109, 110, 111, 112, 113, 114, 115, 116, 117, 118, 119, 124, 125, 126, 127, 128, 129, 130, 131, 132, 133, 134, 135, 136, 137] (by decide +kernel) (by decide +kernel)
set_option maxRecDepth 20000 in
theorem gX7_foresee_X7_hourOn : GoodIn wsX7_foresee (wsV RX7 170 RX7 yX7_hourOn wsX7_hourOn) := goodIn_app (goodIn_of _ (by decide +kernel)) ggX7_foresee_X7_hourOn
set_option maxRecDepth 20000 in
theorem ggX7_foresee_X7_le : GoodIn wsX7_foresee wsX7_le := goodIn_r _ [78, 26, 124, 125, 126, 127, 128, 129, 130, 131, 132, 133, 134, 135, 136, 137] (by decide +kernel) (by decide +kernel)
set_option maxRecDepth 20000 in
theorem gX7_foresee_X7_le : GoodIn wsX7_foresee (wsV RX7 87 RX7 yX7_le wsX7_le) := goodIn_app (goodIn_of _ (by decide +kernel)) ggX7_foresee_X7_le
set_option maxRecDepth 20000 in
theorem ggX7_foresee_X7_bringBack : GoodIn wsX7_foresee wsX7_bringBack := goodIn_r _ [123, 20, 26, 27, 124, 125, 126, 127, 128, 129, 130, 131, 132, 133, 134, 135, 136, 137] (by decide +kernel) (by decide +kernel)
set_option maxRecDepth 20000 in
theorem gX7_foresee_X7_bringBack : GoodIn wsX7_foresee (wsV RX7 186 RX7 yX7_bringBack wsX7_bringBack) := goodIn_app (goodIn_of _ (by decide +kernel)) ggX7_foresee_X7_bringBack
theorem dX7_foresee_0 : decode cX7_foresee 0 = .ok (.aload_n 0, 1) := by decide +kernel
theorem dX7_foresee_1 : decode cX7_foresee 1 = .ok (.iconst 0, 1) := by decide +kernel
theorem dX7_foresee_2 : decode cX7_foresee 2 = .ok (.putfield 34, 3) := by decide +kernel
theorem dX7_foresee_5 : decode cX7_foresee 5 = .ok (.aload_n 0, 1) := by decide +kernel
theorem dX7_foresee_6 : decode cX7_foresee 6 = .ok (.iload_n 1, 1) := by decide +kernel
theorem dX7_foresee_7 : decode cX7_foresee 7 = .ok (.invokevirtual 125, 3) := by decide +kernel
theorem dX7_foresee_10 : decode cX7_foresee 10 = .ok (.ifCond .ne 9, 3) := by decide +kernel
theorem dX7_foresee_13 : decode cX7_foresee 13 = .ok (.aload_n 0, 1) := by decide +kernel
theorem dX7_foresee_14 : decode cX7_foresee 14 = .ok (.iconst 1, 1) := by decide +kernel
theorem dX7_foresee_15 : decode cX7_foresee 15 = .ok (.invokevirtual 51, 3) := by decide +kernel
theorem dX7_foresee_18 : decode cX7_foresee 18 = .ok (.ireturn, 1) := by decide +kernel
theorem dX7_foresee_19 : decode cX7_foresee 19 = .ok (.iload_n 2, 1) := by decide +kernel
theorem dX7_foresee_20 : decode cX7_foresee 20 = .ok (.iconst 0, 1) := by decide +kernel
theorem dX7_foresee_21 : decode cX7_foresee 21 = .ok (.sipush 300, 3) := by decide +kernel
theorem dX7_foresee_24 : decode cX7_foresee 24 = .ok (.invokestatic 41, 3) := by decide +kernel
theorem dX7_foresee_27 : decode cX7_foresee 27 = .ok (.ifCond .ne 9, 3) := by decide +kernel
theorem dX7_foresee_30 : decode cX7_foresee 30 = .ok (.aload_n 0, 1) := by decide +kernel
theorem dX7_foresee_31 : decode cX7_foresee 31 = .ok (.iconst 2, 1) := by decide +kernel
theorem dX7_foresee_32 : decode cX7_foresee 32 = .ok (.invokevirtual 51, 3) := by decide +kernel
theorem dX7_foresee_35 : decode cX7_foresee 35 = .ok (.ireturn, 1) := by decide +kernel
theorem dX7_foresee_36 : decode cX7_foresee 36 = .ok (.aload_n 0, 1) := by decide +kernel
theorem dX7_foresee_37 : decode cX7_foresee 37 = .ok (.invokevirtual 182, 3) := by decide +kernel
theorem dX7_foresee_40 : decode cX7_foresee 40 = .ok (.astore_n 3, 1) := by decide +kernel
theorem dX7_foresee_41 : decode cX7_foresee 41 = .ok (.iconst 0, 1) := by decide +kernel
theorem dX7_foresee_42 : decode cX7_foresee 42 = .ok (.istore 4, 2) := by decide +kernel
theorem dX7_foresee_44 : decode cX7_foresee 44 = .ok (.iload 4, 2) := by decide +kernel
theorem dX7_foresee_46 : decode cX7_foresee 46 = .ok (.iload_n 2, 1) := by decide +kernel
theorem dX7_foresee_47 : decode cX7_foresee 47 = .ok (.if_icmp .ge 14, 3) := by decide +kernel
theorem dX7_foresee_50 : decode cX7_foresee 50 = .ok (.aload_n 0, 1) := by decide +kernel
theorem dX7_foresee_51 : decode cX7_foresee 51 = .ok (.invokevirtual 170, 3) := by decide +kernel
theorem dX7_foresee_54 : decode cX7_foresee 54 = .ok (.pop, 1) := by decide +kernel
theorem dX7_foresee_55 : decode cX7_foresee 55 = .ok (.iinc 4 1, 3) := by decide +kernel
theorem dX7_foresee_58 : decode cX7_foresee 58 = .ok (.goto (-14), 3) := by decide +kernel
theorem dX7_foresee_61 : decode cX7_foresee 61 = .ok (.aload_n 0, 1) := by decide +kernel
theorem dX7_foresee_62 : decode cX7_foresee 62 = .ok (.iload_n 1, 1) := by decide +kernel
theorem dX7_foresee_63 : decode cX7_foresee 63 = .ok (.iconst 3, 1) := by decide +kernel
theorem dX7_foresee_64 : decode cX7_foresee 64 = .ok (.invokevirtual 87, 3) := by decide +kernel
theorem dX7_foresee_67 : decode cX7_foresee 67 = .ok (.istore 4, 2) := by decide +kernel
theorem dX7_foresee_69 : decode cX7_foresee 69 = .ok (.aload_n 0, 1) := by decide +kernel
theorem dX7_foresee_70 : decode cX7_foresee 70 = .ok (.aload_n 3, 1) := by decide +kernel
theorem dX7_foresee_71 : decode cX7_foresee 71 = .ok (.invokevirtual 186, 3) := by decide +kernel
theorem dX7_foresee_74 : decode cX7_foresee 74 = .ok (.iload 4, 2) := by decide +kernel
theorem dX7_foresee_76 : decode cX7_foresee 76 = .ok (.ireturn, 1) := by decide +kernel
set_option maxRecDepth 20000 in
theorem ggX7_arrives_X7_isLetter : GoodIn wsX7_arrives wsX7_isLetter := goodIn_r _ [6, 7, 8, 9, 5, 10, 124, 125, 126, 127, 128, 129, 130, 131, 132, 133, 134, 135, 136, 137] (by decide +kernel) (by decide +kernel)
set_option maxRecDepth 20000 in
theorem gX7_arrives_X7_isLetter : GoodIn wsX7_arrives (wsV RX7 125 RX7 yX7_isLetter wsX7_isLetter) := goodIn_app (goodIn_of _ (by decide +kernel)) ggX7_arrives_X7_isLetter
set_option maxRecDepth 20000 in
theorem ggX7_arrives_X7_fail : GoodIn wsX7_arrives wsX7_fail := goodIn_r _ [14, 1, 124, 125, 126, 127, 128, 129, 130, 131, 132, 133, 134, 135, 136, 137] (by decide +kernel) (by decide +kernel)
set_option maxRecDepth 20000 in
theorem gX7_arrives_X7_fail : GoodIn wsX7_arrives (wsV RX7 51 RX7 yX7_fail wsX7_fail) := goodIn_app (goodIn_of _ (by decide +kernel)) ggX7_arrives_X7_fail
set_option maxRecDepth 20000 in
theorem ggX7_arrives_X7_kept : GoodIn wsX7_arrives wsX7_kept := goodIn_r _ [18, 19, 20, 21, 22, 23, 24, 25, 26, 27, 124, 125, 126, 127, 128, 129, 130, 131, 132, 133, 134, 135, 136, 137] (by decide +kernel) (by decide +kernel)
set_option maxRecDepth 20000 in
theorem gX7_arrives_X7_kept : GoodIn wsX7_arrives (wsV RX7 182 RX7 yX7_kept wsX7_kept) := goodIn_app (goodIn_of _ (by decide +kernel)) ggX7_arrives_X7_kept
set_option maxRecDepth 20000 in
theorem ggX7_arrives_X7_le : GoodIn wsX7_arrives wsX7_le := goodIn_r _ [31, 26, 124, 125, 126, 127, 128, 129, 130, 131, 132, 133, 134, 135, 136, 137] (by decide +kernel) (by decide +kernel)
set_option maxRecDepth 20000 in
theorem gX7_arrives_X7_le : GoodIn wsX7_arrives (wsV RX7 87 RX7 yX7_le wsX7_le) := goodIn_app (goodIn_of _ (by decide +kernel)) ggX7_arrives_X7_le
set_option maxRecDepth 20000 in
theorem ggX7_arrives_X7_hourOn : GoodIn wsX7_arrives wsX7_hourOn := goodIn_r _ [35, 36, 7, 27, 37, 38, 39, 5, 40, 41, 42, 43, 44, 45, 46, 47, 48, 49, 50, 51, 52, 53, 54, 55, 56, 57, 20, 58, 59, 60, 61, 62, 63, 64, 65, 66, 67, 68, 69, 70, 71, 72, 73, 74, 75, 76, 77, 78, 28, 29, 30, 31, 26, 79, 80, 81, 82, 83, 84, 85, 86, 87, 88, 89, 90, 91, 92, 93, 94, 95, 96, 97, 98, 99, 100, 101, 102, 103, 104, 105, 106, 107, 108, 109, 110, 111, 112, 113, 114, 115, 116, 117, 118, 119, 124, 125, 126, 127, 128, 129, 130, 131, 132, 133, 134, 135, 136, 137] (by decide +kernel) (by decide +kernel)
set_option maxRecDepth 20000 in
theorem gX7_arrives_X7_hourOn : GoodIn wsX7_arrives (wsV RX7 170 RX7 yX7_hourOn wsX7_hourOn) := goodIn_app (goodIn_of _ (by decide +kernel)) ggX7_arrives_X7_hourOn
set_option maxRecDepth 20000 in
theorem ggX7_arrives_X7_bringBack : GoodIn wsX7_arrives wsX7_bringBack := goodIn_r _ [123, 20, 26, 27, 124, 125, 126, 127, 128, 129, 130, 131, 132, 133, 134, 135, 136, 137] (by decide +kernel) (by decide +kernel)
set_option maxRecDepth 20000 in
theorem gX7_arrives_X7_bringBack : GoodIn wsX7_arrives (wsV RX7 186 RX7 yX7_bringBack wsX7_bringBack) := goodIn_app (goodIn_of _ (by decide +kernel)) ggX7_arrives_X7_bringBack
theorem dX7_arrives_0 : decode cX7_arrives 0 = .ok (.aload_n 0, 1) := by decide +kernel
theorem dX7_arrives_1 : decode cX7_arrives 1 = .ok (.iconst 0, 1) := by decide +kernel
theorem dX7_arrives_2 : decode cX7_arrives 2 = .ok (.putfield 34, 3) := by decide +kernel
theorem dX7_arrives_5 : decode cX7_arrives 5 = .ok (.aload_n 0, 1) := by decide +kernel
theorem dX7_arrives_6 : decode cX7_arrives 6 = .ok (.iload_n 1, 1) := by decide +kernel
theorem dX7_arrives_7 : decode cX7_arrives 7 = .ok (.invokevirtual 125, 3) := by decide +kernel
theorem dX7_arrives_10 : decode cX7_arrives 10 = .ok (.ifCond .ne 9, 3) := by decide +kernel
theorem dX7_arrives_13 : decode cX7_arrives 13 = .ok (.aload_n 0, 1) := by decide +kernel
theorem dX7_arrives_14 : decode cX7_arrives 14 = .ok (.iconst 1, 1) := by decide +kernel
theorem dX7_arrives_15 : decode cX7_arrives 15 = .ok (.invokevirtual 51, 3) := by decide +kernel
theorem dX7_arrives_18 : decode cX7_arrives 18 = .ok (.ireturn, 1) := by decide +kernel
theorem dX7_arrives_19 : decode cX7_arrives 19 = .ok (.aload_n 0, 1) := by decide +kernel
theorem dX7_arrives_20 : decode cX7_arrives 20 = .ok (.invokevirtual 182, 3) := by decide +kernel
theorem dX7_arrives_23 : decode cX7_arrives 23 = .ok (.astore_n 2, 1) := by decide +kernel
theorem dX7_arrives_24 : decode cX7_arrives 24 = .ok (.iconst 0, 1) := by decide +kernel
theorem dX7_arrives_25 : decode cX7_arrives 25 = .ok (.istore_n 3, 1) := by decide +kernel
theorem dX7_arrives_26 : decode cX7_arrives 26 = .ok (.iload_n 3, 1) := by decide +kernel
theorem dX7_arrives_27 : decode cX7_arrives 27 = .ok (.sipush 300, 3) := by decide +kernel
theorem dX7_arrives_30 : decode cX7_arrives 30 = .ok (.if_icmp .ge 25, 3) := by decide +kernel
theorem dX7_arrives_33 : decode cX7_arrives 33 = .ok (.aload_n 0, 1) := by decide +kernel
theorem dX7_arrives_34 : decode cX7_arrives 34 = .ok (.iload_n 1, 1) := by decide +kernel
theorem dX7_arrives_35 : decode cX7_arrives 35 = .ok (.bipush 9, 2) := by decide +kernel
theorem dX7_arrives_37 : decode cX7_arrives 37 = .ok (.invokevirtual 87, 3) := by decide +kernel
theorem dX7_arrives_40 : decode cX7_arrives 40 = .ok (.iconst (-1), 1) := by decide +kernel
theorem dX7_arrives_41 : decode cX7_arrives 41 = .ok (.if_icmp .ne 14, 3) := by decide +kernel
theorem dX7_arrives_44 : decode cX7_arrives 44 = .ok (.aload_n 0, 1) := by decide +kernel
theorem dX7_arrives_45 : decode cX7_arrives 45 = .ok (.invokevirtual 170, 3) := by decide +kernel
theorem dX7_arrives_48 : decode cX7_arrives 48 = .ok (.pop, 1) := by decide +kernel
theorem dX7_arrives_49 : decode cX7_arrives 49 = .ok (.iinc 3 1, 3) := by decide +kernel
theorem dX7_arrives_52 : decode cX7_arrives 52 = .ok (.goto (-26), 3) := by decide +kernel
theorem dX7_arrives_55 : decode cX7_arrives 55 = .ok (.aload_n 0, 1) := by decide +kernel
theorem dX7_arrives_56 : decode cX7_arrives 56 = .ok (.iload_n 1, 1) := by decide +kernel
theorem dX7_arrives_57 : decode cX7_arrives 57 = .ok (.bipush 9, 2) := by decide +kernel
theorem dX7_arrives_59 : decode cX7_arrives 59 = .ok (.invokevirtual 87, 3) := by decide +kernel
theorem dX7_arrives_62 : decode cX7_arrives 62 = .ok (.istore_n 3, 1) := by decide +kernel
theorem dX7_arrives_63 : decode cX7_arrives 63 = .ok (.aload_n 0, 1) := by decide +kernel
theorem dX7_arrives_64 : decode cX7_arrives 64 = .ok (.aload_n 2, 1) := by decide +kernel
theorem dX7_arrives_65 : decode cX7_arrives 65 = .ok (.invokevirtual 186, 3) := by decide +kernel
theorem dX7_arrives_68 : decode cX7_arrives 68 = .ok (.iload_n 3, 1) := by decide +kernel
theorem dX7_arrives_69 : decode cX7_arrives 69 = .ok (.ireturn, 1) := by decide +kernel
set_option maxRecDepth 20000 in
theorem ggX7_comeBy_X7_kept : GoodIn wsX7_comeBy wsX7_kept := goodIn_r _ [5, 6, 7, 8, 9, 10, 11, 12, 13, 14, 112, 113, 114, 115, 116, 117, 118, 119, 120, 121, 122, 123, 124, 125] (by decide +kernel) (by decide +kernel)
set_option maxRecDepth 20000 in
theorem gX7_comeBy_X7_kept : GoodIn wsX7_comeBy (wsV RX7 182 RX7 yX7_kept wsX7_kept) := goodIn_app (goodIn_of _ (by decide +kernel)) ggX7_comeBy_X7_kept
set_option maxRecDepth 20000 in
theorem ggX7_comeBy_X7_hourOn : GoodIn wsX7_comeBy wsX7_hourOn := goodIn_r _ [18, 19, 20, 14, 21, 22, 23, 4, 24, 25, 26, 27, 28, 29, 30, 31, 32, 33, 34, 35, 36, 37, 38, 39, 40, 41, 7, 42, 43, 44, 45, 46, 47, 48, 49, 50, 51, 52, 53, 54, 55, 56, 57, 58, 59, 60, 61, 62, 63, 64, 65, 66, 13, 67, 68, 69, 70, 71, 72, 73, 74, 75, 76, 77, 78, 79, 80, 81, 82, 83, 84, 85, 86, 87, 88, 89, 90, 91, 92, 93, 94, 95, 96, 97, 98, 99, 100, 101, 102, 103, 104, 105, 106, 107, 112, 113, 114, 115, 116, 117, 118, 119, 120, 121, 122, 123, 124, 125] (by decide +kernel) (by decide +kernel)
set_option maxRecDepth 20000 in
theorem gX7_comeBy_X7_hourOn : GoodIn wsX7_comeBy (wsV RX7 170 RX7 yX7_hourOn wsX7_hourOn) := goodIn_app (goodIn_of _ (by decide +kernel)) ggX7_comeBy_X7_hourOn
set_option maxRecDepth 20000 in
theorem ggX7_comeBy_X7_bringBack : GoodIn wsX7_comeBy wsX7_bringBack := goodIn_r _ [111, 7, 13, 14, 112, 113, 114, 115, 116, 117, 118, 119, 120, 121, 122, 123, 124, 125] (by decide +kernel) (by decide +kernel)
set_option maxRecDepth 20000 in
theorem gX7_comeBy_X7_bringBack : GoodIn wsX7_comeBy (wsV RX7 186 RX7 yX7_bringBack wsX7_bringBack) := goodIn_app (goodIn_of _ (by decide +kernel)) ggX7_comeBy_X7_bringBack
theorem dX7_comeBy_0 : decode cX7_comeBy 0 = .ok (.aload_n 0, 1) := by decide +kernel
theorem dX7_comeBy_1 : decode cX7_comeBy 1 = .ok (.invokevirtual 182, 3) := by decide +kernel
theorem dX7_comeBy_4 : decode cX7_comeBy 4 = .ok (.astore_n 2, 1) := by decide +kernel
theorem dX7_comeBy_5 : decode cX7_comeBy 5 = .ok (.iconst 0, 1) := by decide +kernel
theorem dX7_comeBy_6 : decode cX7_comeBy 6 = .ok (.istore_n 3, 1) := by decide +kernel
theorem dX7_comeBy_7 : decode cX7_comeBy 7 = .ok (.iconst 0, 1) := by decide +kernel
theorem dX7_comeBy_8 : decode cX7_comeBy 8 = .ok (.istore 4, 2) := by decide +kernel
theorem dX7_comeBy_10 : decode cX7_comeBy 10 = .ok (.iload 4, 2) := by decide +kernel
theorem dX7_comeBy_12 : decode cX7_comeBy 12 = .ok (.iload_n 1, 1) := by decide +kernel
theorem dX7_comeBy_13 : decode cX7_comeBy 13 = .ok (.if_icmp .ge 16, 3) := by decide +kernel
theorem dX7_comeBy_16 : decode cX7_comeBy 16 = .ok (.iload_n 3, 1) := by decide +kernel
theorem dX7_comeBy_17 : decode cX7_comeBy 17 = .ok (.aload_n 0, 1) := by decide +kernel
theorem dX7_comeBy_18 : decode cX7_comeBy 18 = .ok (.invokevirtual 170, 3) := by decide +kernel
theorem dX7_comeBy_21 : decode cX7_comeBy 21 = .ok (.iadd, 1) := by decide +kernel
theorem dX7_comeBy_22 : decode cX7_comeBy 22 = .ok (.istore_n 3, 1) := by decide +kernel
theorem dX7_comeBy_23 : decode cX7_comeBy 23 = .ok (.iinc 4 1, 3) := by decide +kernel
theorem dX7_comeBy_26 : decode cX7_comeBy 26 = .ok (.goto (-16), 3) := by decide +kernel
theorem dX7_comeBy_29 : decode cX7_comeBy 29 = .ok (.aload_n 0, 1) := by decide +kernel
theorem dX7_comeBy_30 : decode cX7_comeBy 30 = .ok (.aload_n 2, 1) := by decide +kernel
theorem dX7_comeBy_31 : decode cX7_comeBy 31 = .ok (.invokevirtual 186, 3) := by decide +kernel
theorem dX7_comeBy_34 : decode cX7_comeBy 34 = .ok (.iload_n 3, 1) := by decide +kernel
theorem dX7_comeBy_35 : decode cX7_comeBy 35 = .ok (.ireturn, 1) := by decide +kernel
set_option maxRecDepth 20000 in
theorem ggX7_advise_X7_isIn : GoodIn wsX7_advise wsX7_isIn := goodIn_r _ [7] (by decide +kernel) (by decide +kernel)
set_option maxRecDepth 20000 in
theorem gX7_advise_X7_isIn : GoodIn wsX7_advise (va_wsS RX7 41 yX7_isIn wsX7_isIn) := goodIn_app (goodIn_of _ (by decide +kernel)) ggX7_advise_X7_isIn
set_option maxRecDepth 20000 in
theorem ggX7_advise_X7_fail : GoodIn wsX7_advise wsX7_fail := goodIn_r _ [11, 1, 133, 134, 135, 136, 137, 138, 139, 140, 141, 142, 143, 144, 145, 146] (by decide +kernel) (by decide +kernel)
set_option maxRecDepth 20000 in
theorem gX7_advise_X7_fail : GoodIn wsX7_advise (wsV RX7 51 RX7 yX7_fail wsX7_fail) := goodIn_app (goodIn_of _ (by decide +kernel)) ggX7_advise_X7_fail
set_option maxRecDepth 20000 in
theorem ggX7_advise_X7_comeBy : GoodIn wsX7_advise wsX7_comeBy := goodIn_r _ [15, 16, 17, 18, 6, 19, 20, 21, 22, 23, 24, 25, 26, 27, 28, 29, 30, 31, 32, 2, 33, 34, 35, 36, 37, 38, 39, 40, 3, 41, 42, 43, 44, 45, 46, 47, 48, 49, 50, 51, 52, 53, 54, 55, 56, 57, 58, 59, 60, 61, 62, 63, 64, 65, 66, 67, 68, 69, 70, 71, 72, 73, 74, 75, 76, 77, 78, 79, 80, 81, 82, 83, 84, 85, 86, 87, 88, 89, 90, 91, 92, 93, 94, 95, 96, 97, 98, 99, 100, 101, 102, 103, 104, 105, 106, 107, 108, 109, 110, 111, 112, 113, 114, 115, 116, 117, 118, 119, 120, 121, 122, 123, 133, 134, 135, 136, 137, 138, 139, 140, 141, 142, 143, 144, 145, 146] (by decide +kernel) (by decide +kernel)
set_option maxRecDepth 20000 in
theorem gX7_advise_X7_comeBy : GoodIn wsX7_advise (wsV RX7 190 RX7 yX7_comeBy wsX7_comeBy) := goodIn_app (goodIn_of _ (by decide +kernel)) ggX7_advise_X7_comeBy
set_option maxRecDepth 20000 in
theorem ggX7_advise_X7_ro : GoodIn wsX7_advise wsX7_ro := goodIn_r _ [57, 58, 133, 134, 135, 136, 137, 138, 139, 140, 141, 142, 143, 144, 145, 146] (by decide +kernel) (by decide +kernel)
set_option maxRecDepth 20000 in
theorem gX7_advise_X7_ro : GoodIn wsX7_advise (wsV RX7 79 RX7 yX7_ro wsX7_ro) := goodIn_app (goodIn_of _ (by decide +kernel)) ggX7_advise_X7_ro
set_option maxRecDepth 20000 in
theorem ggX7_advise_X7_putMule : GoodIn wsX7_advise wsX7_putMule := goodIn_r _ [127, 128, 21, 2, 129, 130, 131, 132, 133, 134, 135, 136, 137, 138, 139, 140, 141, 142, 143, 144, 145, 146] (by decide +kernel) (by decide +kernel)
set_option maxRecDepth 20000 in
theorem gX7_advise_X7_putMule : GoodIn wsX7_advise (wsV RX7 83 RX7 yX7_putMule wsX7_putMule) := goodIn_app (goodIn_of _ (by decide +kernel)) ggX7_advise_X7_putMule
theorem dX7_advise_0 : decode cX7_advise 0 = .ok (.aload_n 0, 1) := by decide +kernel
theorem dX7_advise_1 : decode cX7_advise 1 = .ok (.iconst 0, 1) := by decide +kernel
theorem dX7_advise_2 : decode cX7_advise 2 = .ok (.putfield 34, 3) := by decide +kernel
theorem dX7_advise_5 : decode cX7_advise 5 = .ok (.iload_n 1, 1) := by decide +kernel
theorem dX7_advise_6 : decode cX7_advise 6 = .ok (.iconst 1, 1) := by decide +kernel
theorem dX7_advise_7 : decode cX7_advise 7 = .ok (.bipush 50, 2) := by decide +kernel
theorem dX7_advise_9 : decode cX7_advise 9 = .ok (.invokestatic 41, 3) := by decide +kernel
theorem dX7_advise_12 : decode cX7_advise 12 = .ok (.ifCond .ne 9, 3) := by decide +kernel
theorem dX7_advise_15 : decode cX7_advise 15 = .ok (.aload_n 0, 1) := by decide +kernel
theorem dX7_advise_16 : decode cX7_advise 16 = .ok (.iconst 1, 1) := by decide +kernel
theorem dX7_advise_17 : decode cX7_advise 17 = .ok (.invokevirtual 51, 3) := by decide +kernel
theorem dX7_advise_20 : decode cX7_advise 20 = .ok (.ireturn, 1) := by decide +kernel
theorem dX7_advise_21 : decode cX7_advise 21 = .ok (.aload_n 0, 1) := by decide +kernel
theorem dX7_advise_22 : decode cX7_advise 22 = .ok (.getfield 73, 3) := by decide +kernel
theorem dX7_advise_25 : decode cX7_advise 25 = .ok (.bipush 12, 2) := by decide +kernel
theorem dX7_advise_27 : decode cX7_advise 27 = .ok (.if_icmp .ne 9, 3) := by decide +kernel
theorem dX7_advise_30 : decode cX7_advise 30 = .ok (.aload_n 0, 1) := by decide +kernel
theorem dX7_advise_31 : decode cX7_advise 31 = .ok (.iconst 2, 1) := by decide +kernel
theorem dX7_advise_32 : decode cX7_advise 32 = .ok (.invokevirtual 51, 3) := by decide +kernel
theorem dX7_advise_35 : decode cX7_advise 35 = .ok (.ireturn, 1) := by decide +kernel
theorem dX7_advise_36 : decode cX7_advise 36 = .ok (.iconst (-1), 1) := by decide +kernel
theorem dX7_advise_37 : decode cX7_advise 37 = .ok (.istore_n 2, 1) := by decide +kernel
theorem dX7_advise_38 : decode cX7_advise 38 = .ok (.aload_n 0, 1) := by decide +kernel
theorem dX7_advise_39 : decode cX7_advise 39 = .ok (.iload_n 1, 1) := by decide +kernel
theorem dX7_advise_40 : decode cX7_advise 40 = .ok (.invokevirtual 190, 3) := by decide +kernel
theorem dX7_advise_43 : decode cX7_advise 43 = .ok (.istore_n 3, 1) := by decide +kernel
theorem dX7_advise_44 : decode cX7_advise 44 = .ok (.iconst 0, 1) := by decide +kernel
theorem dX7_advise_45 : decode cX7_advise 45 = .ok (.istore 4, 2) := by decide +kernel
theorem dX7_advise_47 : decode cX7_advise 47 = .ok (.iload 4, 2) := by decide +kernel
theorem dX7_advise_49 : decode cX7_advise 49 = .ok (.aload_n 0, 1) := by decide +kernel
theorem dX7_advise_50 : decode cX7_advise 50 = .ok (.getfield 45, 3) := by decide +kernel
theorem dX7_advise_53 : decode cX7_advise 53 = .ok (.if_icmp .ge 56, 3) := by decide +kernel
theorem dX7_advise_56 : decode cX7_advise 56 = .ok (.aload_n 0, 1) := by decide +kernel
theorem dX7_advise_57 : decode cX7_advise 57 = .ok (.iload 4, 2) := by decide +kernel
theorem dX7_advise_59 : decode cX7_advise 59 = .ok (.bipush 6, 2) := by decide +kernel
theorem dX7_advise_61 : decode cX7_advise 61 = .ok (.aload_n 0, 1) := by decide +kernel
theorem dX7_advise_62 : decode cX7_advise 62 = .ok (.iload 4, 2) := by decide +kernel
theorem dX7_advise_64 : decode cX7_advise 64 = .ok (.iconst 0, 1) := by decide +kernel
theorem dX7_advise_65 : decode cX7_advise 65 = .ok (.invokevirtual 79, 3) := by decide +kernel
theorem dX7_advise_68 : decode cX7_advise 68 = .ok (.invokevirtual 83, 3) := by decide +kernel
theorem dX7_advise_71 : decode cX7_advise 71 = .ok (.aload_n 0, 1) := by decide +kernel
theorem dX7_advise_72 : decode cX7_advise 72 = .ok (.iload_n 1, 1) := by decide +kernel
theorem dX7_advise_73 : decode cX7_advise 73 = .ok (.invokevirtual 190, 3) := by decide +kernel
theorem dX7_advise_76 : decode cX7_advise 76 = .ok (.istore 5, 2) := by decide +kernel
theorem dX7_advise_78 : decode cX7_advise 78 = .ok (.aload_n 0, 1) := by decide +kernel
theorem dX7_advise_79 : decode cX7_advise 79 = .ok (.dup, 1) := by decide +kernel
theorem dX7_advise_80 : decode cX7_advise 80 = .ok (.getfield 73, 3) := by decide +kernel
theorem dX7_advise_83 : decode cX7_advise 83 = .ok (.iconst 1, 1) := by decide +kernel
theorem dX7_advise_84 : decode cX7_advise 84 = .ok (.isub, 1) := by decide +kernel
theorem dX7_advise_85 : decode cX7_advise 85 = .ok (.putfield 73, 3) := by decide +kernel
theorem dX7_advise_88 : decode cX7_advise 88 = .ok (.iload 5, 2) := by decide +kernel
theorem dX7_advise_90 : decode cX7_advise 90 = .ok (.iload_n 3, 1) := by decide +kernel
theorem dX7_advise_91 : decode cX7_advise 91 = .ok (.if_icmp .gt 6, 3) := by decide +kernel
theorem dX7_advise_94 : decode cX7_advise 94 = .ok (.goto 9, 3) := by decide +kernel
theorem dX7_advise_97 : decode cX7_advise 97 = .ok (.iload 4, 2) := by decide +kernel
theorem dX7_advise_99 : decode cX7_advise 99 = .ok (.istore_n 2, 1) := by decide +kernel
theorem dX7_advise_100 : decode cX7_advise 100 = .ok (.iload 5, 2) := by decide +kernel
theorem dX7_advise_102 : decode cX7_advise 102 = .ok (.istore_n 3, 1) := by decide +kernel
theorem dX7_advise_103 : decode cX7_advise 103 = .ok (.iinc 4 1, 3) := by decide +kernel
theorem dX7_advise_106 : decode cX7_advise 106 = .ok (.goto (-59), 3) := by decide +kernel
theorem dX7_advise_109 : decode cX7_advise 109 = .ok (.iload_n 2, 1) := by decide +kernel
theorem dX7_advise_110 : decode cX7_advise 110 = .ok (.ireturn, 1) := by decide +kernel
set_option maxRecDepth 20000 in
theorem ggX7_mean_X7_le : GoodIn wsX7_mean wsX7_le := goodIn_r _ [7, 8, 9, 10, 11, 12, 13, 14, 15, 16, 17, 18, 19, 20, 21, 22] (by decide +kernel) (by decide +kernel)
set_option maxRecDepth 20000 in
theorem gX7_mean_X7_le : GoodIn wsX7_mean (wsV RX7 87 RX7 yX7_le wsX7_le) := goodIn_app (goodIn_of _ (by decide +kernel)) ggX7_mean_X7_le
theorem dX7_mean_0 : decode cX7_mean 0 = .ok (.aload_n 0, 1) := by decide +kernel
theorem dX7_mean_1 : decode cX7_mean 1 = .ok (.iconst 0, 1) := by decide +kernel
theorem dX7_mean_2 : decode cX7_mean 2 = .ok (.putfield 34, 3) := by decide +kernel
theorem dX7_mean_5 : decode cX7_mean 5 = .ok (.iconst 0, 1) := by decide +kernel
theorem dX7_mean_6 : decode cX7_mean 6 = .ok (.istore_n 1, 1) := by decide +kernel
theorem dX7_mean_7 : decode cX7_mean 7 = .ok (.iconst 0, 1) := by decide +kernel
theorem dX7_mean_8 : decode cX7_mean 8 = .ok (.istore_n 2, 1) := by decide +kernel
theorem dX7_mean_9 : decode cX7_mean 9 = .ok (.iconst 0, 1) := by decide +kernel
theorem dX7_mean_10 : decode cX7_mean 10 = .ok (.istore_n 3, 1) := by decide +kernel
theorem dX7_mean_11 : decode cX7_mean 11 = .ok (.iload_n 3, 1) := by decide +kernel
theorem dX7_mean_12 : decode cX7_mean 12 = .ok (.aload_n 0, 1) := by decide +kernel
theorem dX7_mean_13 : decode cX7_mean 13 = .ok (.getfield 48, 3) := by decide +kernel
theorem dX7_mean_16 : decode cX7_mean 16 = .ok (.if_icmp .ge 43, 3) := by decide +kernel
theorem dX7_mean_19 : decode cX7_mean 19 = .ok (.aload_n 0, 1) := by decide +kernel
theorem dX7_mean_20 : decode cX7_mean 20 = .ok (.iload_n 3, 1) := by decide +kernel
theorem dX7_mean_21 : decode cX7_mean 21 = .ok (.iconst 3, 1) := by decide +kernel
theorem dX7_mean_22 : decode cX7_mean 22 = .ok (.invokevirtual 87, 3) := by decide +kernel
theorem dX7_mean_25 : decode cX7_mean 25 = .ok (.iconst 2, 1) := by decide +kernel
theorem dX7_mean_26 : decode cX7_mean 26 = .ok (.if_icmp .eq 6, 3) := by decide +kernel
theorem dX7_mean_29 : decode cX7_mean 29 = .ok (.goto 24, 3) := by decide +kernel
theorem dX7_mean_32 : decode cX7_mean 32 = .ok (.iload_n 1, 1) := by decide +kernel
theorem dX7_mean_33 : decode cX7_mean 33 = .ok (.aload_n 0, 1) := by decide +kernel
theorem dX7_mean_34 : decode cX7_mean 34 = .ok (.iload_n 3, 1) := by decide +kernel
theorem dX7_mean_35 : decode cX7_mean 35 = .ok (.bipush 9, 2) := by decide +kernel
theorem dX7_mean_37 : decode cX7_mean 37 = .ok (.invokevirtual 87, 3) := by decide +kernel
theorem dX7_mean_40 : decode cX7_mean 40 = .ok (.aload_n 0, 1) := by decide +kernel
theorem dX7_mean_41 : decode cX7_mean 41 = .ok (.iload_n 3, 1) := by decide +kernel
theorem dX7_mean_42 : decode cX7_mean 42 = .ok (.bipush 8, 2) := by decide +kernel
theorem dX7_mean_44 : decode cX7_mean 44 = .ok (.invokevirtual 87, 3) := by decide +kernel
theorem dX7_mean_47 : decode cX7_mean 47 = .ok (.isub, 1) := by decide +kernel
theorem dX7_mean_48 : decode cX7_mean 48 = .ok (.iadd, 1) := by decide +kernel
theorem dX7_mean_49 : decode cX7_mean 49 = .ok (.istore_n 1, 1) := by decide +kernel
theorem dX7_mean_50 : decode cX7_mean 50 = .ok (.iinc 2 1, 3) := by decide +kernel
theorem dX7_mean_53 : decode cX7_mean 53 = .ok (.iinc 3 1, 3) := by decide +kernel
theorem dX7_mean_56 : decode cX7_mean 56 = .ok (.goto (-45), 3) := by decide +kernel
theorem dX7_mean_59 : decode cX7_mean 59 = .ok (.iload_n 2, 1) := by decide +kernel
theorem dX7_mean_60 : decode cX7_mean 60 = .ok (.ifCond .ne 7, 3) := by decide +kernel
theorem dX7_mean_63 : decode cX7_mean 63 = .ok (.dconst 0, 1) := by decide +kernel
theorem dX7_mean_64 : decode cX7_mean 64 = .ok (.goto 8, 3) := by decide +kernel
theorem dX7_mean_67 : decode cX7_mean 67 = .ok (.iload_n 1, 1) := by decide +kernel
theorem dX7_mean_68 : decode cX7_mean 68 = .ok (.i2d, 1) := by decide +kernel
theorem dX7_mean_69 : decode cX7_mean 69 = .ok (.iload_n 2, 1) := by decide +kernel
theorem dX7_mean_70 : decode cX7_mean 70 = .ok (.i2d, 1) := by decide +kernel
theorem dX7_mean_71 : decode cX7_mean 71 = .ok (.ddiv, 1) := by decide +kernel
theorem dX7_mean_72 : decode cX7_mean 72 = .ok (.dreturn, 1) := by decide +kernel
set_option maxRecDepth 20000 in
theorem ggX7_digest_X7_counted : GoodIn wsX7_digest wsX7_counted := goodIn_r _ [12, 13, 4, 5, 6, 7, 14, 15, 16, 11, 17, 18, 19, 20, 21, 22, 75, 76, 77, 78, 79, 80, 81, 82, 83, 84, 85, 86, 87, 88] (by decide +kernel) (by decide +kernel)
set_option maxRecDepth 20000 in
theorem gX7_digest_X7_counted : GoodIn wsX7_digest (wsV RX7 174 RX7 yX7_counted wsX7_counted) := goodIn_app (goodIn_of _ (by decide +kernel)) ggX7_digest_X7_counted
set_option maxRecDepth 20000 in
theorem ggX7_digest_X7_stationTold : GoodIn wsX7_digest wsX7_stationTold := goodIn_r _ [26, 6, 27, 28, 29, 30, 31, 32, 11, 33, 34, 14, 15, 16, 17, 7, 18, 19, 20, 21, 22, 35, 36, 37, 38, 39, 40, 41, 75, 76, 77, 78, 79, 80, 81, 82, 83, 84, 85, 86, 87, 88] (by decide +kernel) (by decide +kernel)
set_option maxRecDepth 20000 in
theorem gX7_digest_X7_stationTold : GoodIn wsX7_digest (wsV RX7 97 RX7 yX7_stationTold wsX7_stationTold) := goodIn_app (goodIn_of _ (by decide +kernel)) ggX7_digest_X7_stationTold
set_option maxRecDepth 20000 in
theorem ggX7_digest_X7_roadTold : GoodIn wsX7_digest wsX7_roadTold := goodIn_r _ [45, 46, 47, 48, 11, 49, 50, 51, 52, 53, 54, 27, 55, 56, 57, 58, 59, 60, 61, 62, 63, 64, 65, 66, 6, 30, 31, 32, 33, 34, 75, 76, 77, 78, 79, 80, 81, 82, 83, 84, 85, 86, 87, 88] (by decide +kernel) (by decide +kernel)
set_option maxRecDepth 20000 in
theorem gX7_digest_X7_roadTold : GoodIn wsX7_digest (wsV RX7 115 RX7 yX7_roadTold wsX7_roadTold) := goodIn_app (goodIn_of _ (by decide +kernel)) ggX7_digest_X7_roadTold
set_option maxRecDepth 20000 in
theorem ggX7_digest_X7_muleTold : GoodIn wsX7_digest wsX7_muleTold := goodIn_r _ [70, 30, 31, 32, 11, 33, 34, 14, 15, 16, 17, 7, 18, 19, 20, 21, 22, 75, 76, 77, 78, 79, 80, 81, 82, 83, 84, 85, 86, 87, 88] (by decide +kernel) (by decide +kernel)
set_option maxRecDepth 20000 in
theorem gX7_digest_X7_muleTold : GoodIn wsX7_digest (wsV RX7 118 RX7 yX7_muleTold wsX7_muleTold) := goodIn_app (goodIn_of _ (by decide +kernel)) ggX7_digest_X7_muleTold
set_option maxRecDepth 20000 in
theorem ggX7_digest_X7_letterTold : GoodIn wsX7_digest wsX7_letterTold := goodIn_r _ [74, 18, 19, 20, 11, 21, 22, 35, 36, 37, 38, 39, 40, 41, 75, 76, 77, 78, 79, 80, 81, 82, 83, 84, 85, 86, 87, 88] (by decide +kernel) (by decide +kernel)
set_option maxRecDepth 20000 in
theorem gX7_digest_X7_letterTold : GoodIn wsX7_digest (wsV RX7 134 RX7 yX7_letterTold wsX7_letterTold) := goodIn_app (goodIn_of _ (by decide +kernel)) ggX7_digest_X7_letterTold
theorem dX7_digest_0 : decode cX7_digest 0 = .ok (.aload_n 0, 1) := by decide +kernel
theorem dX7_digest_1 : decode cX7_digest 1 = .ok (.iconst 0, 1) := by decide +kernel
theorem dX7_digest_2 : decode cX7_digest 2 = .ok (.putfield 34, 3) := by decide +kernel
theorem dX7_digest_5 : decode cX7_digest 5 = .ok (.ldc2_w 193, 3) := by decide +kernel
theorem dX7_digest_8 : decode cX7_digest 8 = .ok (.lstore_n 1, 1) := by decide +kernel
theorem dX7_digest_9 : decode cX7_digest 9 = .ok (.iconst 0, 1) := by decide +kernel
theorem dX7_digest_10 : decode cX7_digest 10 = .ok (.istore_n 3, 1) := by decide +kernel
theorem dX7_digest_11 : decode cX7_digest 11 = .ok (.iload_n 3, 1) := by decide +kernel
theorem dX7_digest_12 : decode cX7_digest 12 = .ok (.bipush 10, 2) := by decide +kernel
theorem dX7_digest_14 : decode cX7_digest 14 = .ok (.if_icmp .ge 22, 3) := by decide +kernel
theorem dX7_digest_17 : decode cX7_digest 17 = .ok (.lload_n 1, 1) := by decide +kernel
theorem dX7_digest_18 : decode cX7_digest 18 = .ok (.ldc2_w 195, 3) := by decide +kernel
theorem dX7_digest_21 : decode cX7_digest 21 = .ok (.lmul, 1) := by decide +kernel
theorem dX7_digest_22 : decode cX7_digest 22 = .ok (.aload_n 0, 1) := by decide +kernel
theorem dX7_digest_23 : decode cX7_digest 23 = .ok (.iload_n 3, 1) := by decide +kernel
theorem dX7_digest_24 : decode cX7_digest 24 = .ok (.invokevirtual 174, 3) := by decide +kernel
theorem dX7_digest_27 : decode cX7_digest 27 = .ok (.i2l, 1) := by decide +kernel
theorem dX7_digest_28 : decode cX7_digest 28 = .ok (.ladd, 1) := by decide +kernel
theorem dX7_digest_29 : decode cX7_digest 29 = .ok (.lstore_n 1, 1) := by decide +kernel
theorem dX7_digest_30 : decode cX7_digest 30 = .ok (.iinc 3 1, 3) := by decide +kernel
theorem dX7_digest_33 : decode cX7_digest 33 = .ok (.goto (-22), 3) := by decide +kernel
theorem dX7_digest_36 : decode cX7_digest 36 = .ok (.iconst 0, 1) := by decide +kernel
theorem dX7_digest_37 : decode cX7_digest 37 = .ok (.istore_n 3, 1) := by decide +kernel
theorem dX7_digest_38 : decode cX7_digest 38 = .ok (.iload_n 3, 1) := by decide +kernel
theorem dX7_digest_39 : decode cX7_digest 39 = .ok (.aload_n 0, 1) := by decide +kernel
theorem dX7_digest_40 : decode cX7_digest 40 = .ok (.getfield 38, 3) := by decide +kernel
theorem dX7_digest_43 : decode cX7_digest 43 = .ok (.if_icmp .ge 39, 3) := by decide +kernel
theorem dX7_digest_46 : decode cX7_digest 46 = .ok (.iconst 0, 1) := by decide +kernel
theorem dX7_digest_47 : decode cX7_digest 47 = .ok (.istore 4, 2) := by decide +kernel
theorem dX7_digest_49 : decode cX7_digest 49 = .ok (.iload 4, 2) := by decide +kernel
theorem dX7_digest_51 : decode cX7_digest 51 = .ok (.iconst 5, 1) := by decide +kernel
theorem dX7_digest_52 : decode cX7_digest 52 = .ok (.if_icmp .ge 24, 3) := by decide +kernel
theorem dX7_digest_55 : decode cX7_digest 55 = .ok (.lload_n 1, 1) := by decide +kernel
theorem dX7_digest_56 : decode cX7_digest 56 = .ok (.ldc2_w 195, 3) := by decide +kernel
theorem dX7_digest_59 : decode cX7_digest 59 = .ok (.lmul, 1) := by decide +kernel
theorem dX7_digest_60 : decode cX7_digest 60 = .ok (.aload_n 0, 1) := by decide +kernel
theorem dX7_digest_61 : decode cX7_digest 61 = .ok (.iload_n 3, 1) := by decide +kernel
theorem dX7_digest_62 : decode cX7_digest 62 = .ok (.iload 4, 2) := by decide +kernel
theorem dX7_digest_64 : decode cX7_digest 64 = .ok (.invokevirtual 97, 3) := by decide +kernel
theorem dX7_digest_67 : decode cX7_digest 67 = .ok (.i2l, 1) := by decide +kernel
theorem dX7_digest_68 : decode cX7_digest 68 = .ok (.ladd, 1) := by decide +kernel
theorem dX7_digest_69 : decode cX7_digest 69 = .ok (.lstore_n 1, 1) := by decide +kernel
theorem dX7_digest_70 : decode cX7_digest 70 = .ok (.iinc 4 1, 3) := by decide +kernel
theorem dX7_digest_73 : decode cX7_digest 73 = .ok (.goto (-24), 3) := by decide +kernel
theorem dX7_digest_76 : decode cX7_digest 76 = .ok (.iinc 3 1, 3) := by decide +kernel
theorem dX7_digest_79 : decode cX7_digest 79 = .ok (.goto (-41), 3) := by decide +kernel
theorem dX7_digest_82 : decode cX7_digest 82 = .ok (.iconst 0, 1) := by decide +kernel
theorem dX7_digest_83 : decode cX7_digest 83 = .ok (.istore_n 3, 1) := by decide +kernel
theorem dX7_digest_84 : decode cX7_digest 84 = .ok (.iload_n 3, 1) := by decide +kernel
theorem dX7_digest_85 : decode cX7_digest 85 = .ok (.aload_n 0, 1) := by decide +kernel
theorem dX7_digest_86 : decode cX7_digest 86 = .ok (.getfield 45, 3) := by decide +kernel
theorem dX7_digest_89 : decode cX7_digest 89 = .ok (.if_icmp .ge 40, 3) := by decide +kernel
theorem dX7_digest_92 : decode cX7_digest 92 = .ok (.iconst 0, 1) := by decide +kernel
theorem dX7_digest_93 : decode cX7_digest 93 = .ok (.istore 4, 2) := by decide +kernel
theorem dX7_digest_95 : decode cX7_digest 95 = .ok (.iload 4, 2) := by decide +kernel
theorem dX7_digest_97 : decode cX7_digest 97 = .ok (.bipush 6, 2) := by decide +kernel
theorem dX7_digest_99 : decode cX7_digest 99 = .ok (.if_icmp .ge 24, 3) := by decide +kernel
theorem dX7_digest_102 : decode cX7_digest 102 = .ok (.lload_n 1, 1) := by decide +kernel
theorem dX7_digest_103 : decode cX7_digest 103 = .ok (.ldc2_w 195, 3) := by decide +kernel
theorem dX7_digest_106 : decode cX7_digest 106 = .ok (.lmul, 1) := by decide +kernel
theorem dX7_digest_107 : decode cX7_digest 107 = .ok (.aload_n 0, 1) := by decide +kernel
theorem dX7_digest_108 : decode cX7_digest 108 = .ok (.iload_n 3, 1) := by decide +kernel
theorem dX7_digest_109 : decode cX7_digest 109 = .ok (.iload 4, 2) := by decide +kernel
theorem dX7_digest_111 : decode cX7_digest 111 = .ok (.invokevirtual 115, 3) := by decide +kernel
theorem dX7_digest_114 : decode cX7_digest 114 = .ok (.i2l, 1) := by decide +kernel
theorem dX7_digest_115 : decode cX7_digest 115 = .ok (.ladd, 1) := by decide +kernel
theorem dX7_digest_116 : decode cX7_digest 116 = .ok (.lstore_n 1, 1) := by decide +kernel
theorem dX7_digest_117 : decode cX7_digest 117 = .ok (.iinc 4 1, 3) := by decide +kernel
theorem dX7_digest_120 : decode cX7_digest 120 = .ok (.goto (-25), 3) := by decide +kernel
theorem dX7_digest_123 : decode cX7_digest 123 = .ok (.iinc 3 1, 3) := by decide +kernel
theorem dX7_digest_126 : decode cX7_digest 126 = .ok (.goto (-42), 3) := by decide +kernel
theorem dX7_digest_129 : decode cX7_digest 129 = .ok (.iconst 0, 1) := by decide +kernel
theorem dX7_digest_130 : decode cX7_digest 130 = .ok (.istore_n 3, 1) := by decide +kernel
theorem dX7_digest_131 : decode cX7_digest 131 = .ok (.iload_n 3, 1) := by decide +kernel
theorem dX7_digest_132 : decode cX7_digest 132 = .ok (.aload_n 0, 1) := by decide +kernel
theorem dX7_digest_133 : decode cX7_digest 133 = .ok (.getfield 73, 3) := by decide +kernel
theorem dX7_digest_136 : decode cX7_digest 136 = .ok (.if_icmp .ge 40, 3) := by decide +kernel
theorem dX7_digest_139 : decode cX7_digest 139 = .ok (.iconst 0, 1) := by decide +kernel
theorem dX7_digest_140 : decode cX7_digest 140 = .ok (.istore 4, 2) := by decide +kernel
theorem dX7_digest_142 : decode cX7_digest 142 = .ok (.iload 4, 2) := by decide +kernel
theorem dX7_digest_144 : decode cX7_digest 144 = .ok (.bipush 6, 2) := by decide +kernel
theorem dX7_digest_146 : decode cX7_digest 146 = .ok (.if_icmp .ge 24, 3) := by decide +kernel
theorem dX7_digest_149 : decode cX7_digest 149 = .ok (.lload_n 1, 1) := by decide +kernel
theorem dX7_digest_150 : decode cX7_digest 150 = .ok (.ldc2_w 195, 3) := by decide +kernel
theorem dX7_digest_153 : decode cX7_digest 153 = .ok (.lmul, 1) := by decide +kernel
theorem dX7_digest_154 : decode cX7_digest 154 = .ok (.aload_n 0, 1) := by decide +kernel
theorem dX7_digest_155 : decode cX7_digest 155 = .ok (.iload_n 3, 1) := by decide +kernel
theorem dX7_digest_156 : decode cX7_digest 156 = .ok (.iload 4, 2) := by decide +kernel
theorem dX7_digest_158 : decode cX7_digest 158 = .ok (.invokevirtual 118, 3) := by decide +kernel
theorem dX7_digest_161 : decode cX7_digest 161 = .ok (.i2l, 1) := by decide +kernel
theorem dX7_digest_162 : decode cX7_digest 162 = .ok (.ladd, 1) := by decide +kernel
theorem dX7_digest_163 : decode cX7_digest 163 = .ok (.lstore_n 1, 1) := by decide +kernel
theorem dX7_digest_164 : decode cX7_digest 164 = .ok (.iinc 4 1, 3) := by decide +kernel
theorem dX7_digest_167 : decode cX7_digest 167 = .ok (.goto (-25), 3) := by decide +kernel
theorem dX7_digest_170 : decode cX7_digest 170 = .ok (.iinc 3 1, 3) := by decide +kernel
theorem dX7_digest_173 : decode cX7_digest 173 = .ok (.goto (-42), 3) := by decide +kernel
theorem dX7_digest_176 : decode cX7_digest 176 = .ok (.iconst 0, 1) := by decide +kernel
theorem dX7_digest_177 : decode cX7_digest 177 = .ok (.istore_n 3, 1) := by decide +kernel
theorem dX7_digest_178 : decode cX7_digest 178 = .ok (.iload_n 3, 1) := by decide +kernel
theorem dX7_digest_179 : decode cX7_digest 179 = .ok (.aload_n 0, 1) := by decide +kernel
theorem dX7_digest_180 : decode cX7_digest 180 = .ok (.getfield 48, 3) := by decide +kernel
theorem dX7_digest_183 : decode cX7_digest 183 = .ok (.if_icmp .ge 40, 3) := by decide +kernel
theorem dX7_digest_186 : decode cX7_digest 186 = .ok (.iconst 0, 1) := by decide +kernel
theorem dX7_digest_187 : decode cX7_digest 187 = .ok (.istore 4, 2) := by decide +kernel
theorem dX7_digest_189 : decode cX7_digest 189 = .ok (.iload 4, 2) := by decide +kernel
theorem dX7_digest_191 : decode cX7_digest 191 = .ok (.bipush 11, 2) := by decide +kernel
theorem dX7_digest_193 : decode cX7_digest 193 = .ok (.if_icmp .ge 24, 3) := by decide +kernel
theorem dX7_digest_196 : decode cX7_digest 196 = .ok (.lload_n 1, 1) := by decide +kernel
theorem dX7_digest_197 : decode cX7_digest 197 = .ok (.ldc2_w 195, 3) := by decide +kernel
theorem dX7_digest_200 : decode cX7_digest 200 = .ok (.lmul, 1) := by decide +kernel
theorem dX7_digest_201 : decode cX7_digest 201 = .ok (.aload_n 0, 1) := by decide +kernel
theorem dX7_digest_202 : decode cX7_digest 202 = .ok (.iload_n 3, 1) := by decide +kernel
theorem dX7_digest_203 : decode cX7_digest 203 = .ok (.iload 4, 2) := by decide +kernel
theorem dX7_digest_205 : decode cX7_digest 205 = .ok (.invokevirtual 134, 3) := by decide +kernel
theorem dX7_digest_208 : decode cX7_digest 208 = .ok (.i2l, 1) := by decide +kernel
theorem dX7_digest_209 : decode cX7_digest 209 = .ok (.ladd, 1) := by decide +kernel
theorem dX7_digest_210 : decode cX7_digest 210 = .ok (.lstore_n 1, 1) := by decide +kernel
theorem dX7_digest_211 : decode cX7_digest 211 = .ok (.iinc 4 1, 3) := by decide +kernel
theorem dX7_digest_214 : decode cX7_digest 214 = .ok (.goto (-25), 3) := by decide +kernel
theorem dX7_digest_217 : decode cX7_digest 217 = .ok (.iinc 3 1, 3) := by decide +kernel
theorem dX7_digest_220 : decode cX7_digest 220 = .ok (.goto (-42), 3) := by decide +kernel
theorem dX7_digest_223 : decode cX7_digest 223 = .ok (.lload_n 1, 1) := by decide +kernel
theorem dX7_digest_224 : decode cX7_digest 224 = .ok (.lreturn, 1) := by decide +kernel
theorem dJ6_bitCount_0f7a4_0 : decode cJ6_bitCount_0f7a4 0 = .ok (.iload_n 0, 1) := by decide +kernel
theorem dJ6_bitCount_0f7a4_1 : decode cJ6_bitCount_0f7a4 1 = .ok (.iload_n 0, 1) := by decide +kernel
theorem dJ6_bitCount_0f7a4_2 : decode cJ6_bitCount_0f7a4 2 = .ok (.iconst 1, 1) := by decide +kernel
theorem dJ6_bitCount_0f7a4_3 : decode cJ6_bitCount_0f7a4 3 = .ok (.iushr, 1) := by decide +kernel
theorem dJ6_bitCount_0f7a4_4 : decode cJ6_bitCount_0f7a4 4 = .ok (.ldc_w 265, 3) := by decide +kernel
theorem dJ6_bitCount_0f7a4_7 : decode cJ6_bitCount_0f7a4 7 = .ok (.iand, 1) := by decide +kernel
theorem dJ6_bitCount_0f7a4_8 : decode cJ6_bitCount_0f7a4 8 = .ok (.isub, 1) := by decide +kernel
theorem dJ6_bitCount_0f7a4_9 : decode cJ6_bitCount_0f7a4 9 = .ok (.istore_n 0, 1) := by decide +kernel
theorem dJ6_bitCount_0f7a4_10 : decode cJ6_bitCount_0f7a4 10 = .ok (.iload_n 0, 1) := by decide +kernel
theorem dJ6_bitCount_0f7a4_11 : decode cJ6_bitCount_0f7a4 11 = .ok (.ldc_w 266, 3) := by decide +kernel
theorem dJ6_bitCount_0f7a4_14 : decode cJ6_bitCount_0f7a4 14 = .ok (.iand, 1) := by decide +kernel
theorem dJ6_bitCount_0f7a4_15 : decode cJ6_bitCount_0f7a4 15 = .ok (.iload_n 0, 1) := by decide +kernel
theorem dJ6_bitCount_0f7a4_16 : decode cJ6_bitCount_0f7a4 16 = .ok (.iconst 2, 1) := by decide +kernel
theorem dJ6_bitCount_0f7a4_17 : decode cJ6_bitCount_0f7a4 17 = .ok (.iushr, 1) := by decide +kernel
theorem dJ6_bitCount_0f7a4_18 : decode cJ6_bitCount_0f7a4 18 = .ok (.ldc_w 266, 3) := by decide +kernel
theorem dJ6_bitCount_0f7a4_21 : decode cJ6_bitCount_0f7a4 21 = .ok (.iand, 1) := by decide +kernel
theorem dJ6_bitCount_0f7a4_22 : decode cJ6_bitCount_0f7a4 22 = .ok (.iadd, 1) := by decide +kernel
theorem dJ6_bitCount_0f7a4_23 : decode cJ6_bitCount_0f7a4 23 = .ok (.istore_n 0, 1) := by decide +kernel
theorem dJ6_bitCount_0f7a4_24 : decode cJ6_bitCount_0f7a4 24 = .ok (.iload_n 0, 1) := by decide +kernel
theorem dJ6_bitCount_0f7a4_25 : decode cJ6_bitCount_0f7a4 25 = .ok (.iload_n 0, 1) := by decide +kernel
theorem dJ6_bitCount_0f7a4_26 : decode cJ6_bitCount_0f7a4 26 = .ok (.iconst 4, 1) := by decide +kernel
theorem dJ6_bitCount_0f7a4_27 : decode cJ6_bitCount_0f7a4 27 = .ok (.iushr, 1) := by decide +kernel
theorem dJ6_bitCount_0f7a4_28 : decode cJ6_bitCount_0f7a4 28 = .ok (.iadd, 1) := by decide +kernel
theorem dJ6_bitCount_0f7a4_29 : decode cJ6_bitCount_0f7a4 29 = .ok (.ldc_w 267, 3) := by decide +kernel
theorem dJ6_bitCount_0f7a4_32 : decode cJ6_bitCount_0f7a4 32 = .ok (.iand, 1) := by decide +kernel
theorem dJ6_bitCount_0f7a4_33 : decode cJ6_bitCount_0f7a4 33 = .ok (.istore_n 0, 1) := by decide +kernel
theorem dJ6_bitCount_0f7a4_34 : decode cJ6_bitCount_0f7a4 34 = .ok (.iload_n 0, 1) := by decide +kernel
theorem dJ6_bitCount_0f7a4_35 : decode cJ6_bitCount_0f7a4 35 = .ok (.iload_n 0, 1) := by decide +kernel
theorem dJ6_bitCount_0f7a4_36 : decode cJ6_bitCount_0f7a4 36 = .ok (.bipush 8, 2) := by decide +kernel
theorem dJ6_bitCount_0f7a4_38 : decode cJ6_bitCount_0f7a4 38 = .ok (.iushr, 1) := by decide +kernel
theorem dJ6_bitCount_0f7a4_39 : decode cJ6_bitCount_0f7a4 39 = .ok (.iadd, 1) := by decide +kernel
theorem dJ6_bitCount_0f7a4_40 : decode cJ6_bitCount_0f7a4 40 = .ok (.istore_n 0, 1) := by decide +kernel
theorem dJ6_bitCount_0f7a4_41 : decode cJ6_bitCount_0f7a4 41 = .ok (.iload_n 0, 1) := by decide +kernel
theorem dJ6_bitCount_0f7a4_42 : decode cJ6_bitCount_0f7a4 42 = .ok (.iload_n 0, 1) := by decide +kernel
theorem dJ6_bitCount_0f7a4_43 : decode cJ6_bitCount_0f7a4 43 = .ok (.bipush 16, 2) := by decide +kernel
theorem dJ6_bitCount_0f7a4_45 : decode cJ6_bitCount_0f7a4 45 = .ok (.iushr, 1) := by decide +kernel
theorem dJ6_bitCount_0f7a4_46 : decode cJ6_bitCount_0f7a4 46 = .ok (.iadd, 1) := by decide +kernel
theorem dJ6_bitCount_0f7a4_47 : decode cJ6_bitCount_0f7a4 47 = .ok (.istore_n 0, 1) := by decide +kernel
theorem dJ6_bitCount_0f7a4_48 : decode cJ6_bitCount_0f7a4 48 = .ok (.iload_n 0, 1) := by decide +kernel
theorem dJ6_bitCount_0f7a4_49 : decode cJ6_bitCount_0f7a4 49 = .ok (.bipush 63, 2) := by decide +kernel
theorem dJ6_bitCount_0f7a4_51 : decode cJ6_bitCount_0f7a4 51 = .ok (.iand, 1) := by decide +kernel
theorem dJ6_bitCount_0f7a4_52 : decode cJ6_bitCount_0f7a4 52 = .ok (.ireturn, 1) := by decide +kernel
theorem dJ9_max_7cf53_0 : decode cJ9_max_7cf53 0 = .ok (.iload_n 0, 1) := by decide +kernel
theorem dJ9_max_7cf53_1 : decode cJ9_max_7cf53 1 = .ok (.iload_n 1, 1) := by decide +kernel
theorem dJ9_max_7cf53_2 : decode cJ9_max_7cf53 2 = .ok (.if_icmp .lt 7, 3) := by decide +kernel
theorem dJ9_max_7cf53_5 : decode cJ9_max_7cf53 5 = .ok (.iload_n 0, 1) := by decide +kernel
theorem dJ9_max_7cf53_6 : decode cJ9_max_7cf53 6 = .ok (.goto 4, 3) := by decide +kernel
theorem dJ9_max_7cf53_9 : decode cJ9_max_7cf53 9 = .ok (.iload_n 1, 1) := by decide +kernel
theorem dJ9_max_7cf53_10 : decode cJ9_max_7cf53 10 = .ok (.ireturn, 1) := by decide +kernel
theorem dJ9_min_7cf53_0 : decode cJ9_min_7cf53 0 = .ok (.iload_n 0, 1) := by decide +kernel
theorem dJ9_min_7cf53_1 : decode cJ9_min_7cf53 1 = .ok (.iload_n 1, 1) := by decide +kernel
theorem dJ9_min_7cf53_2 : decode cJ9_min_7cf53 2 = .ok (.if_icmp .gt 7, 3) := by decide +kernel
theorem dJ9_min_7cf53_5 : decode cJ9_min_7cf53 5 = .ok (.iload_n 0, 1) := by decide +kernel
theorem dJ9_min_7cf53_6 : decode cJ9_min_7cf53 6 = .ok (.goto 4, 3) := by decide +kernel
theorem dJ9_min_7cf53_9 : decode cJ9_min_7cf53 9 = .ok (.iload_n 1, 1) := by decide +kernel
theorem dJ9_min_7cf53_10 : decode cJ9_min_7cf53 10 = .ok (.ireturn, 1) := by decide +kernel
set_option maxRecDepth 20000 in
theorem ggL_addStation_X6_addStation : GoodIn wsL_addStation wsX6_addStation := goodIn_ca (goodIn_ca (goodIn_r _ [7, 8, 9, 10, 11, 12, 13, 14, 6, 15, 16, 17, 18, 19, 20, 21, 22, 23, 24, 25, 26, 27, 28, 29, 30, 31, 32, 33, 34, 35, 36, 37, 38, 39, 40] (by decide +kernel) (by decide +kernel)) (goodIn_sub (fun _ h => List.mem_cons_of_mem _ (List.mem_append_left _ (List.mem_append_right _ h))) (by decide +kernel))) (goodIn_sub (fun _ h => List.mem_cons_of_mem _ (List.mem_append_right _ h)) (by decide +kernel))
set_option maxRecDepth 20000 in
theorem gL_addStation_X6_addStation : GoodIn wsL_addStation (wsV RL 7 RX6 yX6_addStation wsX6_addStation) := goodIn_app (goodIn_of _ (by decide +kernel)) ggL_addStation_X6_addStation
theorem dL_addStation_0 : decode cL_addStation 0 = .ok (.aload_n 2, 1) := by decide +kernel
theorem dL_addStation_1 : decode cL_addStation 1 = .ok (.iconst 0, 1) := by decide +kernel
theorem dL_addStation_2 : decode cL_addStation 2 = .ok (.aload_n 0, 1) := by decide +kernel
theorem dL_addStation_3 : decode cL_addStation 3 = .ok (.iload_n 1, 1) := by decide +kernel
theorem dL_addStation_4 : decode cL_addStation 4 = .ok (.invokevirtual 7, 3) := by decide +kernel
theorem dL_addStation_7 : decode cL_addStation 7 = .ok (.i2l, 1) := by decide +kernel
theorem dL_addStation_8 : decode cL_addStation 8 = .ok (.lastore, 1) := by decide +kernel
theorem dL_addStation_9 : decode cL_addStation 9 = .ok (.goto 9, 3) := by decide +kernel
theorem dL_addStation_12 : decode cL_addStation 12 = .ok (.astore_n 3, 1) := by decide +kernel
theorem dL_addStation_13 : decode cL_addStation 13 = .ok (.iconst 1, 1) := by decide +kernel
theorem dL_addStation_14 : decode cL_addStation 14 = .ok (.ireturn, 1) := by decide +kernel
theorem dL_addStation_15 : decode cL_addStation 15 = .ok (.astore_n 3, 1) := by decide +kernel
theorem dL_addStation_16 : decode cL_addStation 16 = .ok (.iconst 2, 1) := by decide +kernel
theorem dL_addStation_17 : decode cL_addStation 17 = .ok (.ireturn, 1) := by decide +kernel
theorem dL_addStation_18 : decode cL_addStation 18 = .ok (.iconst 0, 1) := by decide +kernel
theorem dL_addStation_19 : decode cL_addStation 19 = .ok (.ireturn, 1) := by decide +kernel
set_option maxRecDepth 20000 in
theorem ggL_setSight_X6_setSight : GoodIn wsL_setSight wsX6_setSight := goodIn_ca (goodIn_ca (goodIn_r _ [7, 8, 9, 10, 11, 12, 13, 14, 15, 6, 16, 17, 18, 19, 20, 21, 22, 23, 24, 25, 26, 27, 28, 29, 30, 31, 32, 33, 34, 35, 36, 37, 38, 39, 40, 41, 42, 43, 44, 45, 46, 47, 48, 49, 50, 51, 52, 53, 54, 55, 56, 57, 58, 59] (by decide +kernel) (by decide +kernel)) (goodIn_sub (fun _ h => List.mem_cons_of_mem _ (List.mem_append_left _ (List.mem_append_right _ h))) (by decide +kernel))) (goodIn_sub (fun _ h => List.mem_cons_of_mem _ (List.mem_append_right _ h)) (by decide +kernel))
set_option maxRecDepth 20000 in
theorem gL_setSight_X6_setSight : GoodIn wsL_setSight (wsV RL 17 RX6 yX6_setSight wsX6_setSight) := goodIn_app (goodIn_of _ (by decide +kernel)) ggL_setSight_X6_setSight
theorem dL_setSight_0 : decode cL_setSight 0 = .ok (.aload 4, 2) := by decide +kernel
theorem dL_setSight_2 : decode cL_setSight 2 = .ok (.iconst 0, 1) := by decide +kernel
theorem dL_setSight_3 : decode cL_setSight 3 = .ok (.aload_n 0, 1) := by decide +kernel
theorem dL_setSight_4 : decode cL_setSight 4 = .ok (.iload_n 1, 1) := by decide +kernel
theorem dL_setSight_5 : decode cL_setSight 5 = .ok (.iload_n 2, 1) := by decide +kernel
theorem dL_setSight_6 : decode cL_setSight 6 = .ok (.iload_n 3, 1) := by decide +kernel
theorem dL_setSight_7 : decode cL_setSight 7 = .ok (.invokevirtual 17, 3) := by decide +kernel
theorem dL_setSight_10 : decode cL_setSight 10 = .ok (.i2l, 1) := by decide +kernel
theorem dL_setSight_11 : decode cL_setSight 11 = .ok (.lastore, 1) := by decide +kernel
theorem dL_setSight_12 : decode cL_setSight 12 = .ok (.goto 11, 3) := by decide +kernel
theorem dL_setSight_15 : decode cL_setSight 15 = .ok (.astore 5, 2) := by decide +kernel
theorem dL_setSight_17 : decode cL_setSight 17 = .ok (.iconst 1, 1) := by decide +kernel
theorem dL_setSight_18 : decode cL_setSight 18 = .ok (.ireturn, 1) := by decide +kernel
theorem dL_setSight_19 : decode cL_setSight 19 = .ok (.astore 5, 2) := by decide +kernel
theorem dL_setSight_21 : decode cL_setSight 21 = .ok (.iconst 2, 1) := by decide +kernel
theorem dL_setSight_22 : decode cL_setSight 22 = .ok (.ireturn, 1) := by decide +kernel
theorem dL_setSight_23 : decode cL_setSight 23 = .ok (.iconst 0, 1) := by decide +kernel
theorem dL_setSight_24 : decode cL_setSight 24 = .ok (.ireturn, 1) := by decide +kernel
set_option maxRecDepth 20000 in
theorem ggL_setFog_X6_setFog : GoodIn wsL_setFog wsX6_setFog := goodIn_ca (goodIn_r _ [6, 7, 8, 9, 10, 11, 12, 5, 13, 14, 15, 16, 17, 18, 19, 20, 21, 22, 23, 24, 25, 26, 27, 28, 29, 30, 31, 32, 33, 34, 35, 36, 37, 38, 39, 40] (by decide +kernel) (by decide +kernel)) (goodIn_sub (fun _ h => List.mem_cons_of_mem _ (List.mem_append_right _ h)) (by decide +kernel))
set_option maxRecDepth 20000 in
theorem gL_setFog_X6_setFog : GoodIn wsL_setFog (wsV RL 23 RX6 yX6_setFog wsX6_setFog) := goodIn_app (goodIn_of _ (by decide +kernel)) ggL_setFog_X6_setFog
theorem dL_setFog_0 : decode cL_setFog 0 = .ok (.aload_n 3, 1) := by decide +kernel
theorem dL_setFog_1 : decode cL_setFog 1 = .ok (.iconst 0, 1) := by decide +kernel
theorem dL_setFog_2 : decode cL_setFog 2 = .ok (.aload_n 0, 1) := by decide +kernel
theorem dL_setFog_3 : decode cL_setFog 3 = .ok (.iload_n 1, 1) := by decide +kernel
theorem dL_setFog_4 : decode cL_setFog 4 = .ok (.iload_n 2, 1) := by decide +kernel
theorem dL_setFog_5 : decode cL_setFog 5 = .ok (.invokevirtual 23, 3) := by decide +kernel
theorem dL_setFog_8 : decode cL_setFog 8 = .ok (.i2l, 1) := by decide +kernel
theorem dL_setFog_9 : decode cL_setFog 9 = .ok (.lastore, 1) := by decide +kernel
theorem dL_setFog_10 : decode cL_setFog 10 = .ok (.goto 7, 3) := by decide +kernel
theorem dL_setFog_13 : decode cL_setFog 13 = .ok (.astore 4, 2) := by decide +kernel
theorem dL_setFog_15 : decode cL_setFog 15 = .ok (.iconst 1, 1) := by decide +kernel
theorem dL_setFog_16 : decode cL_setFog 16 = .ok (.ireturn, 1) := by decide +kernel
theorem dL_setFog_17 : decode cL_setFog 17 = .ok (.iconst 0, 1) := by decide +kernel
theorem dL_setFog_18 : decode cL_setFog 18 = .ok (.ireturn, 1) := by decide +kernel
set_option maxRecDepth 20000 in
theorem ggL_build_X6_build : GoodIn wsL_build wsX6_build := goodIn_ca (goodIn_ca (goodIn_ca (goodIn_r _ [8, 9, 10, 11, 12, 13, 14, 15, 16, 17, 18, 7, 19, 20, 21, 22, 23, 24, 25, 26, 27, 28, 29, 30, 31, 32, 33, 34, 35, 36, 37, 38, 39, 40, 41, 42, 43, 44, 45, 46, 47, 48, 49] (by decide +kernel) (by decide +kernel)) (goodIn_sub (fun _ h => List.mem_cons_of_mem _ (List.mem_append_left _ (List.mem_append_left _ (List.mem_append_right _ h)))) (by decide +kernel))) (goodIn_sub (fun _ h => List.mem_cons_of_mem _ (List.mem_append_left _ (List.mem_append_right _ h))) (by decide +kernel))) (goodIn_sub (fun _ h => List.mem_cons_of_mem _ (List.mem_append_right _ h)) (by decide +kernel))
set_option maxRecDepth 20000 in
theorem gL_build_X6_build : GoodIn wsL_build (wsV RL 27 RX6 yX6_build wsX6_build) := goodIn_app (goodIn_of _ (by decide +kernel)) ggL_build_X6_build
theorem dL_build_0 : decode cL_build 0 = .ok (.aload 4, 2) := by decide +kernel
theorem dL_build_2 : decode cL_build 2 = .ok (.iconst 0, 1) := by decide +kernel
theorem dL_build_3 : decode cL_build 3 = .ok (.aload_n 0, 1) := by decide +kernel
theorem dL_build_4 : decode cL_build 4 = .ok (.iload_n 1, 1) := by decide +kernel
theorem dL_build_5 : decode cL_build 5 = .ok (.iload_n 2, 1) := by decide +kernel
theorem dL_build_6 : decode cL_build 6 = .ok (.iload_n 3, 1) := by decide +kernel
theorem dL_build_7 : decode cL_build 7 = .ok (.invokevirtual 27, 3) := by decide +kernel
theorem dL_build_10 : decode cL_build 10 = .ok (.i2l, 1) := by decide +kernel
theorem dL_build_11 : decode cL_build 11 = .ok (.lastore, 1) := by decide +kernel
theorem dL_build_12 : decode cL_build 12 = .ok (.goto 15, 3) := by decide +kernel
theorem dL_build_15 : decode cL_build 15 = .ok (.astore 5, 2) := by decide +kernel
theorem dL_build_17 : decode cL_build 17 = .ok (.iconst 1, 1) := by decide +kernel
theorem dL_build_18 : decode cL_build 18 = .ok (.ireturn, 1) := by decide +kernel
theorem dL_build_19 : decode cL_build 19 = .ok (.astore 5, 2) := by decide +kernel
theorem dL_build_21 : decode cL_build 21 = .ok (.iconst 2, 1) := by decide +kernel
theorem dL_build_22 : decode cL_build 22 = .ok (.ireturn, 1) := by decide +kernel
theorem dL_build_23 : decode cL_build 23 = .ok (.astore 5, 2) := by decide +kernel
theorem dL_build_25 : decode cL_build 25 = .ok (.iconst 3, 1) := by decide +kernel
theorem dL_build_26 : decode cL_build 26 = .ok (.ireturn, 1) := by decide +kernel
theorem dL_build_27 : decode cL_build 27 = .ok (.iconst 0, 1) := by decide +kernel
theorem dL_build_28 : decode cL_build 28 = .ok (.ireturn, 1) := by decide +kernel
set_option maxRecDepth 20000 in
theorem ggL_addMule_X6_addMule : GoodIn wsL_addMule wsX6_addMule := goodIn_ca (goodIn_ca (goodIn_ca (goodIn_r _ [8, 9, 10, 11, 12, 13, 14, 15, 16, 17, 18, 19, 7, 20, 21, 22, 23, 24, 25, 26, 27, 28, 29, 30, 31, 32, 33, 34, 35, 36, 37, 38, 39, 40, 41, 42, 43, 44, 45, 46, 47, 48, 49, 50, 51, 52, 53, 54, 55, 56, 57, 58, 59, 60, 61, 62, 63, 64, 65, 66, 67, 68, 69, 70, 71, 72, 73, 74, 75, 76, 77, 78, 79, 80, 81, 82, 83, 84, 85, 86, 87, 88, 89, 90, 91, 92, 93, 94, 95, 96, 97, 98, 99, 100, 101, 102, 103, 104, 105, 106, 107, 108, 109, 110, 111, 112, 113, 114, 115, 116, 117, 118, 119, 120, 121, 122, 123, 124, 125, 126, 127, 128] (by decide +kernel) (by decide +kernel)) (goodIn_sub (fun _ h => List.mem_cons_of_mem _ (List.mem_append_left _ (List.mem_append_left _ (List.mem_append_right _ h)))) (by decide +kernel))) (goodIn_sub (fun _ h => List.mem_cons_of_mem _ (List.mem_append_left _ (List.mem_append_right _ h))) (by decide +kernel))) (goodIn_sub (fun _ h => List.mem_cons_of_mem _ (List.mem_append_right _ h)) (by decide +kernel))
set_option maxRecDepth 20000 in
theorem gL_addMule_X6_addMule : GoodIn wsL_addMule (wsV RL 31 RX6 yX6_addMule wsX6_addMule) := goodIn_app (goodIn_of _ (by decide +kernel)) ggL_addMule_X6_addMule
theorem dL_addMule_0 : decode cL_addMule 0 = .ok (.aload 4, 2) := by decide +kernel
theorem dL_addMule_2 : decode cL_addMule 2 = .ok (.iconst 0, 1) := by decide +kernel
theorem dL_addMule_3 : decode cL_addMule 3 = .ok (.aload_n 0, 1) := by decide +kernel
theorem dL_addMule_4 : decode cL_addMule 4 = .ok (.iload_n 1, 1) := by decide +kernel
theorem dL_addMule_5 : decode cL_addMule 5 = .ok (.iload_n 2, 1) := by decide +kernel
theorem dL_addMule_6 : decode cL_addMule 6 = .ok (.iload_n 3, 1) := by decide +kernel
theorem dL_addMule_7 : decode cL_addMule 7 = .ok (.invokevirtual 31, 3) := by decide +kernel
theorem dL_addMule_10 : decode cL_addMule 10 = .ok (.i2l, 1) := by decide +kernel
theorem dL_addMule_11 : decode cL_addMule 11 = .ok (.lastore, 1) := by decide +kernel
theorem dL_addMule_12 : decode cL_addMule 12 = .ok (.goto 15, 3) := by decide +kernel
theorem dL_addMule_15 : decode cL_addMule 15 = .ok (.astore 5, 2) := by decide +kernel
theorem dL_addMule_17 : decode cL_addMule 17 = .ok (.iconst 1, 1) := by decide +kernel
theorem dL_addMule_18 : decode cL_addMule 18 = .ok (.ireturn, 1) := by decide +kernel
theorem dL_addMule_19 : decode cL_addMule 19 = .ok (.astore 5, 2) := by decide +kernel
theorem dL_addMule_21 : decode cL_addMule 21 = .ok (.iconst 2, 1) := by decide +kernel
theorem dL_addMule_22 : decode cL_addMule 22 = .ok (.ireturn, 1) := by decide +kernel
theorem dL_addMule_23 : decode cL_addMule 23 = .ok (.astore 5, 2) := by decide +kernel
theorem dL_addMule_25 : decode cL_addMule 25 = .ok (.iconst 3, 1) := by decide +kernel
theorem dL_addMule_26 : decode cL_addMule 26 = .ok (.ireturn, 1) := by decide +kernel
theorem dL_addMule_27 : decode cL_addMule 27 = .ok (.iconst 0, 1) := by decide +kernel
theorem dL_addMule_28 : decode cL_addMule 28 = .ok (.ireturn, 1) := by decide +kernel
set_option maxRecDepth 20000 in
theorem ggL_station_X6_station : GoodIn wsL_station wsX6_station := goodIn_ca (goodIn_r _ [6, 7, 8, 9, 10, 11, 5, 12, 13, 14, 15, 16, 17, 18, 19, 20, 21, 22, 23, 24, 25, 26, 27, 28, 29, 30, 31, 32, 33, 34, 35, 36, 37, 38, 39, 40, 41, 42, 43, 44, 45, 46, 47, 48, 49, 50, 51, 52, 53, 54, 55, 56, 57, 58, 59, 60, 61, 62, 63, 64, 65, 66, 67, 68, 69, 70, 71, 72, 73, 74, 75, 76, 77, 78, 79, 80, 81, 82, 83, 84, 85, 86, 87, 88, 89, 90, 91, 92, 93, 94, 95, 96] (by decide +kernel) (by decide +kernel)) (goodIn_sub (fun _ h => List.mem_cons_of_mem _ (List.mem_append_right _ h)) (by decide +kernel))
set_option maxRecDepth 20000 in
theorem gL_station_X6_station : GoodIn wsL_station (wsV RL 34 RX6 yX6_station wsX6_station) := goodIn_app (goodIn_of _ (by decide +kernel)) ggL_station_X6_station
theorem dL_station_0 : decode cL_station 0 = .ok (.aload_n 3, 1) := by decide +kernel
theorem dL_station_1 : decode cL_station 1 = .ok (.iconst 0, 1) := by decide +kernel
theorem dL_station_2 : decode cL_station 2 = .ok (.aload_n 0, 1) := by decide +kernel
theorem dL_station_3 : decode cL_station 3 = .ok (.iload_n 1, 1) := by decide +kernel
theorem dL_station_4 : decode cL_station 4 = .ok (.iload_n 2, 1) := by decide +kernel
theorem dL_station_5 : decode cL_station 5 = .ok (.invokevirtual 34, 3) := by decide +kernel
theorem dL_station_8 : decode cL_station 8 = .ok (.i2l, 1) := by decide +kernel
theorem dL_station_9 : decode cL_station 9 = .ok (.lastore, 1) := by decide +kernel
theorem dL_station_10 : decode cL_station 10 = .ok (.goto 7, 3) := by decide +kernel
theorem dL_station_13 : decode cL_station 13 = .ok (.astore 4, 2) := by decide +kernel
theorem dL_station_15 : decode cL_station 15 = .ok (.iconst 1, 1) := by decide +kernel
theorem dL_station_16 : decode cL_station 16 = .ok (.ireturn, 1) := by decide +kernel
theorem dL_station_17 : decode cL_station 17 = .ok (.iconst 0, 1) := by decide +kernel
theorem dL_station_18 : decode cL_station 18 = .ok (.ireturn, 1) := by decide +kernel
set_option maxRecDepth 20000 in
theorem ggL_road_X6_road : GoodIn wsL_road wsX6_road := goodIn_ca (goodIn_r _ [6, 7, 8, 9, 10, 11, 5, 12, 13, 14, 15, 16, 17, 18, 19, 20, 21, 22, 23, 24, 25, 26, 27, 28, 29, 30, 31, 32, 33, 34, 35, 36, 37, 38, 39, 40, 41, 42, 43, 44, 45, 46, 47, 48, 49, 50, 51, 52, 53, 54, 55, 56, 57, 58, 59, 60, 61, 62, 63, 64, 65, 66, 67, 68, 69, 70, 71, 72, 73, 74, 75, 76, 77, 78, 79, 80, 81] (by decide +kernel) (by decide +kernel)) (goodIn_sub (fun _ h => List.mem_cons_of_mem _ (List.mem_append_right _ h)) (by decide +kernel))
set_option maxRecDepth 20000 in
theorem gL_road_X6_road : GoodIn wsL_road (wsV RL 38 RX6 yX6_road wsX6_road) := goodIn_app (goodIn_of _ (by decide +kernel)) ggL_road_X6_road
theorem dL_road_0 : decode cL_road 0 = .ok (.aload_n 3, 1) := by decide +kernel
theorem dL_road_1 : decode cL_road 1 = .ok (.iconst 0, 1) := by decide +kernel
theorem dL_road_2 : decode cL_road 2 = .ok (.aload_n 0, 1) := by decide +kernel
theorem dL_road_3 : decode cL_road 3 = .ok (.iload_n 1, 1) := by decide +kernel
theorem dL_road_4 : decode cL_road 4 = .ok (.iload_n 2, 1) := by decide +kernel
theorem dL_road_5 : decode cL_road 5 = .ok (.invokevirtual 38, 3) := by decide +kernel
theorem dL_road_8 : decode cL_road 8 = .ok (.i2l, 1) := by decide +kernel
theorem dL_road_9 : decode cL_road 9 = .ok (.lastore, 1) := by decide +kernel
theorem dL_road_10 : decode cL_road 10 = .ok (.goto 7, 3) := by decide +kernel
theorem dL_road_13 : decode cL_road 13 = .ok (.astore 4, 2) := by decide +kernel
theorem dL_road_15 : decode cL_road 15 = .ok (.iconst 1, 1) := by decide +kernel
theorem dL_road_16 : decode cL_road 16 = .ok (.ireturn, 1) := by decide +kernel
theorem dL_road_17 : decode cL_road 17 = .ok (.iconst 0, 1) := by decide +kernel
theorem dL_road_18 : decode cL_road 18 = .ok (.ireturn, 1) := by decide +kernel
set_option maxRecDepth 20000 in
theorem ggL_mule_X6_mule : GoodIn wsL_mule wsX6_mule := goodIn_ca (goodIn_r _ [6, 7, 8, 9, 10, 11, 5, 12, 13, 14, 15, 16, 17, 18, 19, 20, 21, 22, 23, 24, 25, 26, 27, 28, 29, 30, 31, 32, 33, 34, 35, 36, 37, 38, 39, 40, 41, 42, 43, 44, 45, 46, 47, 48, 49, 50, 51, 52, 53, 54, 55, 56, 57, 58, 59, 60, 61, 62, 63, 64] (by decide +kernel) (by decide +kernel)) (goodIn_sub (fun _ h => List.mem_cons_of_mem _ (List.mem_append_right _ h)) (by decide +kernel))
set_option maxRecDepth 20000 in
theorem gL_mule_X6_mule : GoodIn wsL_mule (wsV RL 41 RX6 yX6_mule wsX6_mule) := goodIn_app (goodIn_of _ (by decide +kernel)) ggL_mule_X6_mule
theorem dL_mule_0 : decode cL_mule 0 = .ok (.aload_n 3, 1) := by decide +kernel
theorem dL_mule_1 : decode cL_mule 1 = .ok (.iconst 0, 1) := by decide +kernel
theorem dL_mule_2 : decode cL_mule 2 = .ok (.aload_n 0, 1) := by decide +kernel
theorem dL_mule_3 : decode cL_mule 3 = .ok (.iload_n 1, 1) := by decide +kernel
theorem dL_mule_4 : decode cL_mule 4 = .ok (.iload_n 2, 1) := by decide +kernel
theorem dL_mule_5 : decode cL_mule 5 = .ok (.invokevirtual 41, 3) := by decide +kernel
theorem dL_mule_8 : decode cL_mule 8 = .ok (.i2l, 1) := by decide +kernel
theorem dL_mule_9 : decode cL_mule 9 = .ok (.lastore, 1) := by decide +kernel
theorem dL_mule_10 : decode cL_mule 10 = .ok (.goto 7, 3) := by decide +kernel
theorem dL_mule_13 : decode cL_mule 13 = .ok (.astore 4, 2) := by decide +kernel
theorem dL_mule_15 : decode cL_mule 15 = .ok (.iconst 1, 1) := by decide +kernel
theorem dL_mule_16 : decode cL_mule 16 = .ok (.ireturn, 1) := by decide +kernel
theorem dL_mule_17 : decode cL_mule 17 = .ok (.iconst 0, 1) := by decide +kernel
theorem dL_mule_18 : decode cL_mule 18 = .ok (.ireturn, 1) := by decide +kernel
set_option maxRecDepth 20000 in
theorem ggL_post_X6_post : GoodIn wsL_post wsX6_post := goodIn_ca (goodIn_ca (goodIn_ca (goodIn_r _ [8, 9, 10, 11, 12, 13, 14, 15, 16, 17, 18, 7, 19, 20, 21, 22, 23, 24, 25, 26, 27, 28, 29, 30, 31, 32, 33, 34, 35, 36, 37, 38, 39, 40, 41, 42, 43, 44, 45, 46, 47, 48, 49, 50, 51, 52, 53, 54, 55, 56, 57, 58, 59, 60, 61, 62, 63, 64, 65, 66, 67, 68, 69, 70, 71, 72, 73, 74, 75, 76, 77, 78, 79, 80, 81, 82, 83, 84, 85] (by decide +kernel) (by decide +kernel)) (goodIn_sub (fun _ h => List.mem_cons_of_mem _ (List.mem_append_left _ (List.mem_append_left _ (List.mem_append_right _ h)))) (by decide +kernel))) (goodIn_sub (fun _ h => List.mem_cons_of_mem _ (List.mem_append_left _ (List.mem_append_right _ h))) (by decide +kernel))) (goodIn_sub (fun _ h => List.mem_cons_of_mem _ (List.mem_append_right _ h)) (by decide +kernel))
set_option maxRecDepth 20000 in
theorem gL_post_X6_post : GoodIn wsL_post (wsV RL 44 RX6 yX6_post wsX6_post) := goodIn_app (goodIn_of _ (by decide +kernel)) ggL_post_X6_post
theorem dL_post_0 : decode cL_post 0 = .ok (.aload 4, 2) := by decide +kernel
theorem dL_post_2 : decode cL_post 2 = .ok (.iconst 0, 1) := by decide +kernel
theorem dL_post_3 : decode cL_post 3 = .ok (.aload_n 0, 1) := by decide +kernel
theorem dL_post_4 : decode cL_post 4 = .ok (.iload_n 1, 1) := by decide +kernel
theorem dL_post_5 : decode cL_post 5 = .ok (.iload_n 2, 1) := by decide +kernel
theorem dL_post_6 : decode cL_post 6 = .ok (.iload_n 3, 1) := by decide +kernel
theorem dL_post_7 : decode cL_post 7 = .ok (.invokevirtual 44, 3) := by decide +kernel
theorem dL_post_10 : decode cL_post 10 = .ok (.i2l, 1) := by decide +kernel
theorem dL_post_11 : decode cL_post 11 = .ok (.lastore, 1) := by decide +kernel
theorem dL_post_12 : decode cL_post 12 = .ok (.goto 15, 3) := by decide +kernel
theorem dL_post_15 : decode cL_post 15 = .ok (.astore 5, 2) := by decide +kernel
theorem dL_post_17 : decode cL_post 17 = .ok (.iconst 1, 1) := by decide +kernel
theorem dL_post_18 : decode cL_post 18 = .ok (.ireturn, 1) := by decide +kernel
theorem dL_post_19 : decode cL_post 19 = .ok (.astore 5, 2) := by decide +kernel
theorem dL_post_21 : decode cL_post 21 = .ok (.iconst 2, 1) := by decide +kernel
theorem dL_post_22 : decode cL_post 22 = .ok (.ireturn, 1) := by decide +kernel
theorem dL_post_23 : decode cL_post 23 = .ok (.astore 5, 2) := by decide +kernel
theorem dL_post_25 : decode cL_post 25 = .ok (.iconst 3, 1) := by decide +kernel
theorem dL_post_26 : decode cL_post 26 = .ok (.ireturn, 1) := by decide +kernel
theorem dL_post_27 : decode cL_post 27 = .ok (.iconst 0, 1) := by decide +kernel
theorem dL_post_28 : decode cL_post 28 = .ok (.ireturn, 1) := by decide +kernel
set_option maxRecDepth 20000 in
theorem ggL_recall_X6_recall : GoodIn wsL_recall wsX6_recall := goodIn_ca (goodIn_ca (goodIn_r _ [7, 8, 9, 10, 11, 12, 13, 14, 15, 16, 6, 17, 18, 19, 20, 21, 22, 23, 24, 25, 26, 27, 28, 29, 30, 31, 32, 33, 34, 35, 36, 37, 38, 39, 40, 41, 42, 43, 44, 45, 46, 47, 48, 49, 50, 51, 52, 53, 54, 55, 56, 57, 58, 59, 60, 61, 62, 63, 64, 65, 66, 67, 68, 69, 70, 71, 72, 73, 74, 75, 76, 77, 78, 79, 80, 81, 82, 83, 84, 85, 86, 87, 88, 89, 90, 91, 92, 93, 94, 95, 96, 97, 98] (by decide +kernel) (by decide +kernel)) (goodIn_sub (fun _ h => List.mem_cons_of_mem _ (List.mem_append_left _ (List.mem_append_right _ h))) (by decide +kernel))) (goodIn_sub (fun _ h => List.mem_cons_of_mem _ (List.mem_append_right _ h)) (by decide +kernel))
set_option maxRecDepth 20000 in
theorem gL_recall_X6_recall : GoodIn wsL_recall (wsV RL 47 RX6 yX6_recall wsX6_recall) := goodIn_app (goodIn_of _ (by decide +kernel)) ggL_recall_X6_recall
theorem dL_recall_0 : decode cL_recall 0 = .ok (.aload_n 2, 1) := by decide +kernel
theorem dL_recall_1 : decode cL_recall 1 = .ok (.iconst 0, 1) := by decide +kernel
theorem dL_recall_2 : decode cL_recall 2 = .ok (.aload_n 0, 1) := by decide +kernel
theorem dL_recall_3 : decode cL_recall 3 = .ok (.iload_n 1, 1) := by decide +kernel
theorem dL_recall_4 : decode cL_recall 4 = .ok (.invokevirtual 47, 3) := by decide +kernel
theorem dL_recall_7 : decode cL_recall 7 = .ok (.i2l, 1) := by decide +kernel
theorem dL_recall_8 : decode cL_recall 8 = .ok (.lastore, 1) := by decide +kernel
theorem dL_recall_9 : decode cL_recall 9 = .ok (.goto 9, 3) := by decide +kernel
theorem dL_recall_12 : decode cL_recall 12 = .ok (.astore_n 3, 1) := by decide +kernel
theorem dL_recall_13 : decode cL_recall 13 = .ok (.iconst 1, 1) := by decide +kernel
theorem dL_recall_14 : decode cL_recall 14 = .ok (.ireturn, 1) := by decide +kernel
theorem dL_recall_15 : decode cL_recall 15 = .ok (.astore_n 3, 1) := by decide +kernel
theorem dL_recall_16 : decode cL_recall 16 = .ok (.iconst 2, 1) := by decide +kernel
theorem dL_recall_17 : decode cL_recall 17 = .ok (.ireturn, 1) := by decide +kernel
theorem dL_recall_18 : decode cL_recall 18 = .ok (.iconst 0, 1) := by decide +kernel
theorem dL_recall_19 : decode cL_recall 19 = .ok (.ireturn, 1) := by decide +kernel
set_option maxRecDepth 20000 in
theorem ggL_letter_X6_letter : GoodIn wsL_letter wsX6_letter := goodIn_ca (goodIn_r _ [6, 7, 8, 9, 10, 11, 5, 12, 13, 14, 15, 16, 17, 18, 19, 20, 21, 22, 23, 24, 25, 26, 27, 28, 29, 30, 31, 32, 33, 34, 35, 36, 37, 38, 39, 40, 41, 42, 43, 44, 45, 46, 47, 48, 49, 50, 51, 52, 53, 54, 55, 56, 57, 58, 59, 60, 61, 62, 63] (by decide +kernel) (by decide +kernel)) (goodIn_sub (fun _ h => List.mem_cons_of_mem _ (List.mem_append_right _ h)) (by decide +kernel))
set_option maxRecDepth 20000 in
theorem gL_letter_X6_letter : GoodIn wsL_letter (wsV RL 50 RX6 yX6_letter wsX6_letter) := goodIn_app (goodIn_of _ (by decide +kernel)) ggL_letter_X6_letter
theorem dL_letter_0 : decode cL_letter 0 = .ok (.aload_n 3, 1) := by decide +kernel
theorem dL_letter_1 : decode cL_letter 1 = .ok (.iconst 0, 1) := by decide +kernel
theorem dL_letter_2 : decode cL_letter 2 = .ok (.aload_n 0, 1) := by decide +kernel
theorem dL_letter_3 : decode cL_letter 3 = .ok (.iload_n 1, 1) := by decide +kernel
theorem dL_letter_4 : decode cL_letter 4 = .ok (.iload_n 2, 1) := by decide +kernel
theorem dL_letter_5 : decode cL_letter 5 = .ok (.invokevirtual 50, 3) := by decide +kernel
theorem dL_letter_8 : decode cL_letter 8 = .ok (.i2l, 1) := by decide +kernel
theorem dL_letter_9 : decode cL_letter 9 = .ok (.lastore, 1) := by decide +kernel
theorem dL_letter_10 : decode cL_letter 10 = .ok (.goto 7, 3) := by decide +kernel
theorem dL_letter_13 : decode cL_letter 13 = .ok (.astore 4, 2) := by decide +kernel
theorem dL_letter_15 : decode cL_letter 15 = .ok (.iconst 1, 1) := by decide +kernel
theorem dL_letter_16 : decode cL_letter 16 = .ok (.ireturn, 1) := by decide +kernel
theorem dL_letter_17 : decode cL_letter 17 = .ok (.iconst 0, 1) := by decide +kernel
theorem dL_letter_18 : decode cL_letter 18 = .ok (.ireturn, 1) := by decide +kernel
set_option maxRecDepth 20000 in
theorem ggL_pass_X6_pass : GoodIn wsL_pass wsX6_pass := goodIn_ca (goodIn_r _ [6, 7, 8, 9, 10, 11, 5, 12, 13, 14, 15, 16, 17, 18, 19, 20, 21, 22, 23, 24, 25, 26, 27, 28, 29, 30, 31, 32, 33, 34, 35, 36, 37, 38, 39, 40, 41, 42, 43, 44, 45, 46, 47, 48, 49, 50, 51, 52, 53, 54, 55, 56, 57, 58, 59, 60, 61, 62, 63, 64, 65, 66, 67, 68, 69, 70, 71, 72, 73, 74, 75, 76, 77, 78, 79, 80, 81, 82, 83, 84, 85, 86, 87, 88, 89, 90, 91, 92, 93, 94, 95, 96, 97, 98, 99, 100, 101, 102, 103, 104, 105, 106, 107, 108, 109, 110, 111, 112, 113, 114, 115, 116, 117, 118, 119, 120, 121, 122, 123, 124, 125, 126, 127, 128, 129, 130, 131, 132, 133, 134, 135, 136, 137, 138, 139, 140, 141, 142, 143, 144, 145, 146, 147, 148, 149, 150, 151, 152, 153, 154, 155, 156, 157, 158, 159, 160, 161, 162, 163, 164, 165, 166, 167, 168, 169, 170, 171, 172, 173, 174, 175, 176, 177, 178, 179, 180, 181, 182, 183, 184, 185, 186, 187, 188, 189, 190, 191, 192, 193, 194, 195, 196, 197, 198, 199, 200, 201, 202, 203, 204, 205, 206, 207, 208, 209, 210] (by decide +kernel) (by decide +kernel)) (goodIn_sub (fun _ h => List.mem_cons_of_mem _ (List.mem_append_right _ h)) (by decide +kernel))
set_option maxRecDepth 20000 in
theorem gL_pass_X6_pass : GoodIn wsL_pass (wsV RL 53 RX6 yX6_pass wsX6_pass) := goodIn_app (goodIn_of _ (by decide +kernel)) ggL_pass_X6_pass
theorem dL_pass_0 : decode cL_pass 0 = .ok (.aload_n 2, 1) := by decide +kernel
theorem dL_pass_1 : decode cL_pass 1 = .ok (.iconst 0, 1) := by decide +kernel
theorem dL_pass_2 : decode cL_pass 2 = .ok (.aload_n 0, 1) := by decide +kernel
theorem dL_pass_3 : decode cL_pass 3 = .ok (.iload_n 1, 1) := by decide +kernel
theorem dL_pass_4 : decode cL_pass 4 = .ok (.invokevirtual 53, 3) := by decide +kernel
theorem dL_pass_7 : decode cL_pass 7 = .ok (.i2l, 1) := by decide +kernel
theorem dL_pass_8 : decode cL_pass 8 = .ok (.lastore, 1) := by decide +kernel
theorem dL_pass_9 : decode cL_pass 9 = .ok (.goto 6, 3) := by decide +kernel
theorem dL_pass_12 : decode cL_pass 12 = .ok (.astore_n 3, 1) := by decide +kernel
theorem dL_pass_13 : decode cL_pass 13 = .ok (.iconst 1, 1) := by decide +kernel
theorem dL_pass_14 : decode cL_pass 14 = .ok (.ireturn, 1) := by decide +kernel
theorem dL_pass_15 : decode cL_pass 15 = .ok (.iconst 0, 1) := by decide +kernel
theorem dL_pass_16 : decode cL_pass 16 = .ok (.ireturn, 1) := by decide +kernel
set_option maxRecDepth 20000 in
theorem ggL_count_X6_count : GoodIn wsL_count wsX6_count := goodIn_ca (goodIn_r _ [6, 7, 8, 9, 10, 5, 11, 12, 13, 14, 15, 16, 17, 18, 19, 20, 21, 22, 23, 24, 25, 26, 27, 28, 29, 30, 31, 32, 33, 34, 35, 36, 37, 38, 39, 40, 41, 42, 43, 44, 45, 46, 47, 48, 49, 50, 51, 52, 53, 54, 55, 56, 57, 58, 59, 60, 61, 62, 63, 64, 65, 66, 67] (by decide +kernel) (by decide +kernel)) (goodIn_sub (fun _ h => List.mem_cons_of_mem _ (List.mem_append_right _ h)) (by decide +kernel))
set_option maxRecDepth 20000 in
theorem gL_count_X6_count : GoodIn wsL_count (wsV RL 56 RX6 yX6_count wsX6_count) := goodIn_app (goodIn_of _ (by decide +kernel)) ggL_count_X6_count
theorem dL_count_0 : decode cL_count 0 = .ok (.aload_n 2, 1) := by decide +kernel
theorem dL_count_1 : decode cL_count 1 = .ok (.iconst 0, 1) := by decide +kernel
theorem dL_count_2 : decode cL_count 2 = .ok (.aload_n 0, 1) := by decide +kernel
theorem dL_count_3 : decode cL_count 3 = .ok (.iload_n 1, 1) := by decide +kernel
theorem dL_count_4 : decode cL_count 4 = .ok (.invokevirtual 56, 3) := by decide +kernel
theorem dL_count_7 : decode cL_count 7 = .ok (.i2l, 1) := by decide +kernel
theorem dL_count_8 : decode cL_count 8 = .ok (.lastore, 1) := by decide +kernel
theorem dL_count_9 : decode cL_count 9 = .ok (.goto 6, 3) := by decide +kernel
theorem dL_count_12 : decode cL_count 12 = .ok (.astore_n 3, 1) := by decide +kernel
theorem dL_count_13 : decode cL_count 13 = .ok (.iconst 1, 1) := by decide +kernel
theorem dL_count_14 : decode cL_count 14 = .ok (.ireturn, 1) := by decide +kernel
theorem dL_count_15 : decode cL_count 15 = .ok (.iconst 0, 1) := by decide +kernel
theorem dL_count_16 : decode cL_count 16 = .ok (.ireturn, 1) := by decide +kernel
set_option maxRecDepth 20000 in
theorem ggL_way_X6_way : GoodIn wsL_way wsX6_way := goodIn_ca (goodIn_r _ [6, 7, 8, 9, 10, 11, 12, 13, 5, 14, 15, 16, 17, 18, 19, 20, 21, 22, 23, 24, 25, 26, 27, 28, 29, 30, 31, 32, 33, 34, 35, 36, 37, 38, 39, 40, 41, 42, 43, 44, 45, 46, 47, 48, 49, 50, 51, 52, 53, 54, 55, 56] (by decide +kernel) (by decide +kernel)) (goodIn_sub (fun _ h => List.mem_cons_of_mem _ (List.mem_append_right _ h)) (by decide +kernel))
set_option maxRecDepth 20000 in
theorem gL_way_X6_way : GoodIn wsL_way (wsV RL 59 RX6 yX6_way wsX6_way) := goodIn_app (goodIn_of _ (by decide +kernel)) ggL_way_X6_way
theorem dL_way_0 : decode cL_way 0 = .ok (.aload 4, 2) := by decide +kernel
theorem dL_way_2 : decode cL_way 2 = .ok (.iconst 0, 1) := by decide +kernel
theorem dL_way_3 : decode cL_way 3 = .ok (.aload_n 0, 1) := by decide +kernel
theorem dL_way_4 : decode cL_way 4 = .ok (.iload_n 1, 1) := by decide +kernel
theorem dL_way_5 : decode cL_way 5 = .ok (.iload_n 2, 1) := by decide +kernel
theorem dL_way_6 : decode cL_way 6 = .ok (.iload_n 3, 1) := by decide +kernel
theorem dL_way_7 : decode cL_way 7 = .ok (.invokevirtual 59, 3) := by decide +kernel
theorem dL_way_10 : decode cL_way 10 = .ok (.i2l, 1) := by decide +kernel
theorem dL_way_11 : decode cL_way 11 = .ok (.lastore, 1) := by decide +kernel
theorem dL_way_12 : decode cL_way 12 = .ok (.goto 7, 3) := by decide +kernel
theorem dL_way_15 : decode cL_way 15 = .ok (.astore 5, 2) := by decide +kernel
theorem dL_way_17 : decode cL_way 17 = .ok (.iconst 1, 1) := by decide +kernel
theorem dL_way_18 : decode cL_way 18 = .ok (.ireturn, 1) := by decide +kernel
theorem dL_way_19 : decode cL_way 19 = .ok (.iconst 0, 1) := by decide +kernel
theorem dL_way_20 : decode cL_way 20 = .ok (.ireturn, 1) := by decide +kernel
set_option maxRecDepth 20000 in
theorem ggL_fire_X6_fire : GoodIn wsL_fire wsX6_fire := goodIn_ca (goodIn_r _ [6, 7, 8, 9, 10, 11, 12, 5, 13, 14, 15, 16, 17, 18, 19, 20, 21, 22, 23, 24, 25, 26, 27, 28, 29, 30, 31, 32, 33, 34, 35, 36, 37, 38, 39, 40, 41, 42, 43, 44, 45, 46, 47, 48, 49, 50] (by decide +kernel) (by decide +kernel)) (goodIn_sub (fun _ h => List.mem_cons_of_mem _ (List.mem_append_right _ h)) (by decide +kernel))
set_option maxRecDepth 20000 in
theorem gL_fire_X6_fire : GoodIn wsL_fire (wsV RL 62 RX6 yX6_fire wsX6_fire) := goodIn_app (goodIn_of _ (by decide +kernel)) ggL_fire_X6_fire
theorem dL_fire_0 : decode cL_fire 0 = .ok (.aload_n 3, 1) := by decide +kernel
theorem dL_fire_1 : decode cL_fire 1 = .ok (.iconst 0, 1) := by decide +kernel
theorem dL_fire_2 : decode cL_fire 2 = .ok (.aload_n 0, 1) := by decide +kernel
theorem dL_fire_3 : decode cL_fire 3 = .ok (.iload_n 1, 1) := by decide +kernel
theorem dL_fire_4 : decode cL_fire 4 = .ok (.iload_n 2, 1) := by decide +kernel
theorem dL_fire_5 : decode cL_fire 5 = .ok (.invokevirtual 62, 3) := by decide +kernel
theorem dL_fire_8 : decode cL_fire 8 = .ok (.i2l, 1) := by decide +kernel
theorem dL_fire_9 : decode cL_fire 9 = .ok (.lastore, 1) := by decide +kernel
theorem dL_fire_10 : decode cL_fire 10 = .ok (.goto 7, 3) := by decide +kernel
theorem dL_fire_13 : decode cL_fire 13 = .ok (.astore 4, 2) := by decide +kernel
theorem dL_fire_15 : decode cL_fire 15 = .ok (.iconst 1, 1) := by decide +kernel
theorem dL_fire_16 : decode cL_fire 16 = .ok (.ireturn, 1) := by decide +kernel
theorem dL_fire_17 : decode cL_fire 17 = .ok (.iconst 0, 1) := by decide +kernel
theorem dL_fire_18 : decode cL_fire 18 = .ok (.ireturn, 1) := by decide +kernel
set_option maxRecDepth 20000 in
theorem ggL_foresee_X6_foresee : GoodIn wsL_foresee wsX6_foresee := goodIn_ca (goodIn_ca (goodIn_r _ [7, 8, 9, 10, 11, 12, 13, 14, 15, 16, 6, 17, 18, 19, 20, 21, 22, 23, 24, 25, 26, 27, 28, 29, 30, 31, 32, 33, 34, 35, 36, 37, 38, 39, 40, 41, 42, 43, 44, 45, 46, 47, 48, 49, 50, 51, 52, 53, 54, 55, 56, 57, 58, 59, 60, 61, 62, 63, 64, 65, 66, 67, 68, 69, 70, 71, 72, 73, 74, 75, 76, 77, 78, 79, 80, 81, 82, 83, 84, 85, 86, 87, 88, 89, 90, 91, 92, 93, 94, 95, 96, 97, 98, 99, 100, 101, 102, 103, 104, 105, 106, 107, 108, 109, 110, 111, 112, 113, 114, 115, 116, 117, 118, 119, 120, 121, 122, 123, 124, 125, 126, 127, 128, 129, 130, 131, 132, 133, 134, 135, 136, 137, 138, 139, 140, 141, 142, 143, 144, 145, 146, 147, 148, 149, 150, 151, 152, 153, 154, 155, 156, 157, 158, 159, 160, 161, 162, 163, 164, 165, 166, 167, 168, 169, 170, 171, 172, 173, 174, 175, 176, 177, 178, 179, 180, 181, 182, 183, 184, 185, 186, 187, 188, 189, 190, 191, 192, 193, 194, 195, 196, 197, 198, 199, 200, 201, 202, 203, 204, 205, 206, 207, 208, 209, 210, 211, 212, 213, 214, 215, 216, 217, 218, 219, 220, 221, 222, 223, 224, 225, 226, 227, 228, 229, 230, 231, 232, 233, 234, 235, 236, 237, 238, 239, 240, 241, 242, 243, 244, 245, 246, 247, 248, 249, 250, 251, 252, 253, 254] (by decide +kernel) (by decide +kernel)) (goodIn_sub (fun _ h => List.mem_cons_of_mem _ (List.mem_append_left _ (List.mem_append_right _ h))) (by decide +kernel))) (goodIn_sub (fun _ h => List.mem_cons_of_mem _ (List.mem_append_right _ h)) (by decide +kernel))
set_option maxRecDepth 20000 in
theorem gL_foresee_X6_foresee : GoodIn wsL_foresee (wsV RL 65 RX6 yX6_foresee wsX6_foresee) := goodIn_app (goodIn_of _ (by decide +kernel)) ggL_foresee_X6_foresee
theorem dL_foresee_0 : decode cL_foresee 0 = .ok (.aload_n 3, 1) := by decide +kernel
theorem dL_foresee_1 : decode cL_foresee 1 = .ok (.iconst 0, 1) := by decide +kernel
theorem dL_foresee_2 : decode cL_foresee 2 = .ok (.aload_n 0, 1) := by decide +kernel
theorem dL_foresee_3 : decode cL_foresee 3 = .ok (.iload_n 1, 1) := by decide +kernel
theorem dL_foresee_4 : decode cL_foresee 4 = .ok (.iload_n 2, 1) := by decide +kernel
theorem dL_foresee_5 : decode cL_foresee 5 = .ok (.invokevirtual 65, 3) := by decide +kernel
theorem dL_foresee_8 : decode cL_foresee 8 = .ok (.i2l, 1) := by decide +kernel
theorem dL_foresee_9 : decode cL_foresee 9 = .ok (.lastore, 1) := by decide +kernel
theorem dL_foresee_10 : decode cL_foresee 10 = .ok (.goto 11, 3) := by decide +kernel
theorem dL_foresee_13 : decode cL_foresee 13 = .ok (.astore 4, 2) := by decide +kernel
theorem dL_foresee_15 : decode cL_foresee 15 = .ok (.iconst 1, 1) := by decide +kernel
theorem dL_foresee_16 : decode cL_foresee 16 = .ok (.ireturn, 1) := by decide +kernel
theorem dL_foresee_17 : decode cL_foresee 17 = .ok (.astore 4, 2) := by decide +kernel
theorem dL_foresee_19 : decode cL_foresee 19 = .ok (.iconst 2, 1) := by decide +kernel
theorem dL_foresee_20 : decode cL_foresee 20 = .ok (.ireturn, 1) := by decide +kernel
theorem dL_foresee_21 : decode cL_foresee 21 = .ok (.iconst 0, 1) := by decide +kernel
theorem dL_foresee_22 : decode cL_foresee 22 = .ok (.ireturn, 1) := by decide +kernel
set_option maxRecDepth 20000 in
theorem ggL_arrives_X6_arrives : GoodIn wsL_arrives wsX6_arrives := goodIn_ca (goodIn_r _ [6, 7, 8, 9, 10, 11, 12, 13, 5, 14, 15, 16, 17, 18, 19, 20, 21, 22, 23, 24, 25, 26, 27, 28, 29, 30, 31, 32, 33, 34, 35, 36, 37, 38, 39, 40, 41, 42, 43, 44, 45, 46, 47, 48, 49, 50, 51, 52, 53, 54, 55, 56, 57, 58, 59, 60, 61, 62, 63, 64, 65, 66, 67, 68, 69, 70, 71, 72, 73, 74, 75, 76, 77, 78, 79, 80, 81, 82, 83, 84, 85, 86, 87, 88, 89, 90, 91, 92, 93, 94, 95, 96, 97, 98, 99, 100, 101, 102, 103, 104, 105, 106, 107, 108, 109, 110, 111, 112, 113, 114, 115, 116, 117, 118, 119, 120, 121, 122, 123, 124, 125, 126, 127, 128, 129, 130, 131, 132, 133, 134, 135, 136, 137, 138, 139, 140, 141, 142, 143, 144, 145, 146, 147, 148, 149, 150, 151, 152, 153, 154, 155, 156, 157, 158, 159, 160, 161, 162, 163, 164, 165, 166, 167, 168, 169, 170, 171, 172, 173, 174, 175, 176, 177, 178, 179, 180, 181, 182, 183, 184, 185, 186, 187, 188, 189, 190, 191, 192, 193, 194, 195, 196, 197, 198, 199, 200, 201, 202, 203, 204, 205, 206, 207, 208, 209, 210, 211, 212, 213, 214, 215, 216, 217, 218, 219, 220, 221, 222, 223, 224, 225, 226, 227, 228, 229, 230, 231, 232, 233, 234, 235, 236, 237, 238, 239, 240, 241, 242, 243, 244, 245, 246, 247, 248, 249, 250, 251] (by decide +kernel) (by decide +kernel)) (goodIn_sub (fun _ h => List.mem_cons_of_mem _ (List.mem_append_right _ h)) (by decide +kernel))
set_option maxRecDepth 20000 in
theorem gL_arrives_X6_arrives : GoodIn wsL_arrives (wsV RL 68 RX6 yX6_arrives wsX6_arrives) := goodIn_app (goodIn_of _ (by decide +kernel)) ggL_arrives_X6_arrives
theorem dL_arrives_0 : decode cL_arrives 0 = .ok (.aload_n 2, 1) := by decide +kernel
theorem dL_arrives_1 : decode cL_arrives 1 = .ok (.iconst 0, 1) := by decide +kernel
theorem dL_arrives_2 : decode cL_arrives 2 = .ok (.aload_n 0, 1) := by decide +kernel
theorem dL_arrives_3 : decode cL_arrives 3 = .ok (.iload_n 1, 1) := by decide +kernel
theorem dL_arrives_4 : decode cL_arrives 4 = .ok (.invokevirtual 68, 3) := by decide +kernel
theorem dL_arrives_7 : decode cL_arrives 7 = .ok (.i2l, 1) := by decide +kernel
theorem dL_arrives_8 : decode cL_arrives 8 = .ok (.lastore, 1) := by decide +kernel
theorem dL_arrives_9 : decode cL_arrives 9 = .ok (.goto 6, 3) := by decide +kernel
theorem dL_arrives_12 : decode cL_arrives 12 = .ok (.astore_n 3, 1) := by decide +kernel
theorem dL_arrives_13 : decode cL_arrives 13 = .ok (.iconst 1, 1) := by decide +kernel
theorem dL_arrives_14 : decode cL_arrives 14 = .ok (.ireturn, 1) := by decide +kernel
theorem dL_arrives_15 : decode cL_arrives 15 = .ok (.iconst 0, 1) := by decide +kernel
theorem dL_arrives_16 : decode cL_arrives 16 = .ok (.ireturn, 1) := by decide +kernel
set_option maxRecDepth 20000 in
theorem ggL_advise_X6_advise : GoodIn wsL_advise wsX6_advise := goodIn_ca (goodIn_ca (goodIn_r _ [7, 8, 9, 10, 11, 12, 13, 14, 15, 16, 6, 17, 18, 19, 20, 21, 22, 23, 24, 25, 26, 27, 28, 29, 30, 31, 32, 33, 34, 35, 36, 37, 38, 39, 40, 41, 42, 43, 44, 45, 46, 47, 48, 49, 50, 51, 52, 53, 54, 55, 56, 57, 58, 59, 60, 61, 62, 63, 64, 65, 66, 67, 68, 69, 70, 71, 72, 73, 74, 75, 76, 77, 78, 79, 80, 81, 82, 83, 84, 85, 86, 87, 88, 89, 90, 91, 92, 93, 94, 95, 96, 97, 98, 99, 100, 101, 102, 103, 104, 105, 106, 107, 108, 109, 110, 111, 112, 113, 114, 115, 116, 117, 118, 119, 120, 121, 122, 123, 124, 125, 126, 127, 128, 129, 130, 131, 132, 133, 134, 135, 136, 137, 138, 139, 140, 141, 142, 143, 144, 145, 146, 147, 148, 149, 150, 151, 152, 153, 154, 155, 156, 157, 158, 159, 160, 161, 162, 163, 164, 165, 166, 167, 168, 169, 170, 171, 172, 173, 174, 175, 176, 177, 178, 179, 180, 181, 182, 183, 184, 185, 186, 187, 188, 189, 190, 191, 192, 193, 194, 195, 196, 197, 198, 199, 200, 201, 202, 203, 204, 205, 206, 207, 208, 209, 210, 211, 212, 213, 214, 215, 216, 217, 218, 219, 220, 221, 222, 223, 224, 225, 226, 227, 228, 229, 230, 231, 232, 233, 234, 235, 236, 237, 238, 239, 240, 241, 242, 243, 244, 245, 246, 247, 248, 249, 250, 251, 252, 253, 254, 255, 256, 257, 258, 259, 260, 261, 262, 263, 264, 265, 266, 267, 268, 269, 270, 271, 272, 273, 274, 275, 276, 277, 278, 279, 280, 281, 282, 283, 284, 285, 286, 287, 288] (by decide +kernel) (by decide +kernel)) (goodIn_sub (fun _ h => List.mem_cons_of_mem _ (List.mem_append_left _ (List.mem_append_right _ h))) (by decide +kernel))) (goodIn_sub (fun _ h => List.mem_cons_of_mem _ (List.mem_append_right _ h)) (by decide +kernel))
set_option maxRecDepth 20000 in
theorem gL_advise_X6_advise : GoodIn wsL_advise (wsV RL 71 RX6 yX6_advise wsX6_advise) := goodIn_app (goodIn_of _ (by decide +kernel)) ggL_advise_X6_advise
theorem dL_advise_0 : decode cL_advise 0 = .ok (.aload_n 2, 1) := by decide +kernel
theorem dL_advise_1 : decode cL_advise 1 = .ok (.iconst 0, 1) := by decide +kernel
theorem dL_advise_2 : decode cL_advise 2 = .ok (.aload_n 0, 1) := by decide +kernel
theorem dL_advise_3 : decode cL_advise 3 = .ok (.iload_n 1, 1) := by decide +kernel
theorem dL_advise_4 : decode cL_advise 4 = .ok (.invokevirtual 71, 3) := by decide +kernel
theorem dL_advise_7 : decode cL_advise 7 = .ok (.i2l, 1) := by decide +kernel
theorem dL_advise_8 : decode cL_advise 8 = .ok (.lastore, 1) := by decide +kernel
theorem dL_advise_9 : decode cL_advise 9 = .ok (.goto 9, 3) := by decide +kernel
theorem dL_advise_12 : decode cL_advise 12 = .ok (.astore_n 3, 1) := by decide +kernel
theorem dL_advise_13 : decode cL_advise 13 = .ok (.iconst 1, 1) := by decide +kernel
theorem dL_advise_14 : decode cL_advise 14 = .ok (.ireturn, 1) := by decide +kernel
theorem dL_advise_15 : decode cL_advise 15 = .ok (.astore_n 3, 1) := by decide +kernel
theorem dL_advise_16 : decode cL_advise 16 = .ok (.iconst 2, 1) := by decide +kernel
theorem dL_advise_17 : decode cL_advise 17 = .ok (.ireturn, 1) := by decide +kernel
theorem dL_advise_18 : decode cL_advise 18 = .ok (.iconst 0, 1) := by decide +kernel
theorem dL_advise_19 : decode cL_advise 19 = .ok (.ireturn, 1) := by decide +kernel
theorem dL_law_0 : decode cL_law 0 = .ok (.new 8, 3) := by decide +kernel
theorem dL_law_3 : decode cL_law 3 = .ok (.dup, 1) := by decide +kernel
theorem dL_law_4 : decode cL_law 4 = .ok (.invokespecial 74, 3) := by decide +kernel
theorem dL_law_7 : decode cL_law 7 = .ok (.astore_n 1, 1) := by decide +kernel
theorem dL_law_8 : decode cL_law 8 = .ok (.new 75, 3) := by decide +kernel
theorem dL_law_11 : decode cL_law 11 = .ok (.dup, 1) := by decide +kernel
theorem dL_law_12 : decode cL_law 12 = .ok (.invokespecial 77, 3) := by decide +kernel
theorem dL_law_15 : decode cL_law 15 = .ok (.astore_n 2, 1) := by decide +kernel
theorem dL_law_16 : decode cL_law 16 = .ok (.iconst 1, 1) := by decide +kernel
theorem dL_law_17 : decode cL_law 17 = .ok (.newarray .long, 2) := by decide +kernel
theorem dL_law_19 : decode cL_law 19 = .ok (.astore_n 3, 1) := by decide +kernel
theorem dL_law_20 : decode cL_law 20 = .ok (.iconst 0, 1) := by decide +kernel
theorem dL_law_21 : decode cL_law 21 = .ok (.istore 4, 2) := by decide +kernel
theorem dL_law_23 : decode cL_law 23 = .ok (.iload 4, 2) := by decide +kernel
theorem dL_law_25 : decode cL_law 25 = .ok (.aload_n 0, 1) := by decide +kernel
theorem dL_law_26 : decode cL_law 26 = .ok (.arraylength, 1) := by decide +kernel
theorem dL_law_27 : decode cL_law 27 = .ok (.iconst 4, 1) := by decide +kernel
theorem dL_law_28 : decode cL_law 28 = .ok (.isub, 1) := by decide +kernel
theorem dL_law_29 : decode cL_law 29 = .ok (.if_icmp .gt 1424, 3) := by decide +kernel
theorem dL_law_32 : decode cL_law 32 = .ok (.aload_n 0, 1) := by decide +kernel
theorem dL_law_33 : decode cL_law 33 = .ok (.iload 4, 2) := by decide +kernel
theorem dL_law_35 : decode cL_law 35 = .ok (.iaload, 1) := by decide +kernel
theorem dL_law_36 : decode cL_law 36 = .ok (.bipush 31, 2) := by decide +kernel
theorem dL_law_38 : decode cL_law 38 = .ok (.iand, 1) := by decide +kernel
theorem dL_law_39 : decode cL_law 39 = .ok (.tableswitch 1408 0 19 #[93, 149, 245, 329, 409, 505, 573, 641, 709, 789, 845, 913, 969, 1025, 1105, 1173, 1241, 1297, 1353, 1394], 93) := by decide +kernel
theorem dL_law_132 : decode cL_law 132 = .ok (.aload_n 1, 1) := by decide +kernel
theorem dL_law_133 : decode cL_law 133 = .ok (.aload_n 0, 1) := by decide +kernel
theorem dL_law_134 : decode cL_law 134 = .ok (.iload 4, 2) := by decide +kernel
theorem dL_law_136 : decode cL_law 136 = .ok (.iconst 1, 1) := by decide +kernel
theorem dL_law_137 : decode cL_law 137 = .ok (.iadd, 1) := by decide +kernel
theorem dL_law_138 : decode cL_law 138 = .ok (.iaload, 1) := by decide +kernel
theorem dL_law_139 : decode cL_law 139 = .ok (.aload_n 3, 1) := by decide +kernel
theorem dL_law_140 : decode cL_law 140 = .ok (.invokestatic 78, 3) := by decide +kernel
theorem dL_law_143 : decode cL_law 143 = .ok (.istore 5, 2) := by decide +kernel
theorem dL_law_145 : decode cL_law 145 = .ok (.aload_n 2, 1) := by decide +kernel
theorem dL_law_146 : decode cL_law 146 = .ok (.aload_n 0, 1) := by decide +kernel
theorem dL_law_147 : decode cL_law 147 = .ok (.iload 4, 2) := by decide +kernel
theorem dL_law_149 : decode cL_law 149 = .ok (.iconst 1, 1) := by decide +kernel
theorem dL_law_150 : decode cL_law 150 = .ok (.iadd, 1) := by decide +kernel
theorem dL_law_151 : decode cL_law 151 = .ok (.iaload, 1) := by decide +kernel
theorem dL_law_152 : decode cL_law 152 = .ok (.invokevirtual 83, 3) := by decide +kernel
theorem dL_law_155 : decode cL_law 155 = .ok (.istore 6, 2) := by decide +kernel
theorem dL_law_157 : decode cL_law 157 = .ok (.aload_n 2, 1) := by decide +kernel
theorem dL_law_158 : decode cL_law 158 = .ok (.invokevirtual 84, 3) := by decide +kernel
theorem dL_law_161 : decode cL_law 161 = .ok (.iload 5, 2) := by decide +kernel
theorem dL_law_163 : decode cL_law 163 = .ok (.if_icmp .eq 5, 3) := by decide +kernel
theorem dL_law_166 : decode cL_law 166 = .ok (.iconst 0, 1) := by decide +kernel
theorem dL_law_167 : decode cL_law 167 = .ok (.ireturn, 1) := by decide +kernel
theorem dL_law_168 : decode cL_law 168 = .ok (.iload 5, 2) := by decide +kernel
theorem dL_law_170 : decode cL_law 170 = .ok (.ifCond .ne 15, 3) := by decide +kernel
theorem dL_law_173 : decode cL_law 173 = .ok (.aload_n 3, 1) := by decide +kernel
theorem dL_law_174 : decode cL_law 174 = .ok (.iconst 0, 1) := by decide +kernel
theorem dL_law_175 : decode cL_law 175 = .ok (.laload, 1) := by decide +kernel
theorem dL_law_176 : decode cL_law 176 = .ok (.iload 6, 2) := by decide +kernel
theorem dL_law_178 : decode cL_law 178 = .ok (.i2l, 1) := by decide +kernel
theorem dL_law_179 : decode cL_law 179 = .ok (.lcmp, 1) := by decide +kernel
theorem dL_law_180 : decode cL_law 180 = .ok (.ifCond .eq 5, 3) := by decide +kernel
theorem dL_law_183 : decode cL_law 183 = .ok (.iconst 0, 1) := by decide +kernel
theorem dL_law_184 : decode cL_law 184 = .ok (.ireturn, 1) := by decide +kernel
theorem dL_law_185 : decode cL_law 185 = .ok (.goto 1262, 3) := by decide +kernel
theorem dL_law_188 : decode cL_law 188 = .ok (.aload_n 1, 1) := by decide +kernel
theorem dL_law_189 : decode cL_law 189 = .ok (.aload_n 0, 1) := by decide +kernel
theorem dL_law_190 : decode cL_law 190 = .ok (.iload 4, 2) := by decide +kernel
theorem dL_law_192 : decode cL_law 192 = .ok (.iconst 1, 1) := by decide +kernel
theorem dL_law_193 : decode cL_law 193 = .ok (.iadd, 1) := by decide +kernel
theorem dL_law_194 : decode cL_law 194 = .ok (.iaload, 1) := by decide +kernel
theorem dL_law_195 : decode cL_law 195 = .ok (.aload_n 0, 1) := by decide +kernel
theorem dL_law_196 : decode cL_law 196 = .ok (.iload 4, 2) := by decide +kernel
theorem dL_law_198 : decode cL_law 198 = .ok (.iconst 2, 1) := by decide +kernel
theorem dL_law_199 : decode cL_law 199 = .ok (.iadd, 1) := by decide +kernel
theorem dL_law_200 : decode cL_law 200 = .ok (.iaload, 1) := by decide +kernel
theorem dL_law_201 : decode cL_law 201 = .ok (.aload_n 0, 1) := by decide +kernel
theorem dL_law_202 : decode cL_law 202 = .ok (.iload 4, 2) := by decide +kernel
theorem dL_law_204 : decode cL_law 204 = .ok (.iconst 3, 1) := by decide +kernel
theorem dL_law_205 : decode cL_law 205 = .ok (.iadd, 1) := by decide +kernel
theorem dL_law_206 : decode cL_law 206 = .ok (.iaload, 1) := by decide +kernel
theorem dL_law_207 : decode cL_law 207 = .ok (.ifCond .eq 7, 3) := by decide +kernel
theorem dL_law_210 : decode cL_law 210 = .ok (.iconst 1, 1) := by decide +kernel
theorem dL_law_211 : decode cL_law 211 = .ok (.goto 4, 3) := by decide +kernel
theorem dL_law_214 : decode cL_law 214 = .ok (.iconst 0, 1) := by decide +kernel
theorem dL_law_215 : decode cL_law 215 = .ok (.aload_n 3, 1) := by decide +kernel
theorem dL_law_216 : decode cL_law 216 = .ok (.invokestatic 88, 3) := by decide +kernel
theorem dL_law_219 : decode cL_law 219 = .ok (.istore 5, 2) := by decide +kernel
theorem dL_law_221 : decode cL_law 221 = .ok (.aload_n 2, 1) := by decide +kernel
theorem dL_law_222 : decode cL_law 222 = .ok (.aload_n 0, 1) := by decide +kernel
theorem dL_law_223 : decode cL_law 223 = .ok (.iload 4, 2) := by decide +kernel
theorem dL_law_225 : decode cL_law 225 = .ok (.iconst 1, 1) := by decide +kernel
theorem dL_law_226 : decode cL_law 226 = .ok (.iadd, 1) := by decide +kernel
theorem dL_law_227 : decode cL_law 227 = .ok (.iaload, 1) := by decide +kernel
theorem dL_law_228 : decode cL_law 228 = .ok (.aload_n 0, 1) := by decide +kernel
theorem dL_law_229 : decode cL_law 229 = .ok (.iload 4, 2) := by decide +kernel
theorem dL_law_231 : decode cL_law 231 = .ok (.iconst 2, 1) := by decide +kernel
theorem dL_law_232 : decode cL_law 232 = .ok (.iadd, 1) := by decide +kernel
theorem dL_law_233 : decode cL_law 233 = .ok (.iaload, 1) := by decide +kernel
theorem dL_law_234 : decode cL_law 234 = .ok (.aload_n 0, 1) := by decide +kernel
theorem dL_law_235 : decode cL_law 235 = .ok (.iload 4, 2) := by decide +kernel
theorem dL_law_237 : decode cL_law 237 = .ok (.iconst 3, 1) := by decide +kernel
theorem dL_law_238 : decode cL_law 238 = .ok (.iadd, 1) := by decide +kernel
theorem dL_law_239 : decode cL_law 239 = .ok (.iaload, 1) := by decide +kernel
theorem dL_law_240 : decode cL_law 240 = .ok (.ifCond .eq 7, 3) := by decide +kernel
theorem dL_law_243 : decode cL_law 243 = .ok (.iconst 1, 1) := by decide +kernel
theorem dL_law_244 : decode cL_law 244 = .ok (.goto 4, 3) := by decide +kernel
theorem dL_law_247 : decode cL_law 247 = .ok (.iconst 0, 1) := by decide +kernel
theorem dL_law_248 : decode cL_law 248 = .ok (.invokevirtual 91, 3) := by decide +kernel
theorem dL_law_251 : decode cL_law 251 = .ok (.istore 6, 2) := by decide +kernel
theorem dL_law_253 : decode cL_law 253 = .ok (.aload_n 2, 1) := by decide +kernel
theorem dL_law_254 : decode cL_law 254 = .ok (.invokevirtual 84, 3) := by decide +kernel
theorem dL_law_257 : decode cL_law 257 = .ok (.iload 5, 2) := by decide +kernel
theorem dL_law_259 : decode cL_law 259 = .ok (.if_icmp .eq 5, 3) := by decide +kernel
theorem dL_law_262 : decode cL_law 262 = .ok (.iconst 0, 1) := by decide +kernel
theorem dL_law_263 : decode cL_law 263 = .ok (.ireturn, 1) := by decide +kernel
theorem dL_law_264 : decode cL_law 264 = .ok (.iload 5, 2) := by decide +kernel
theorem dL_law_266 : decode cL_law 266 = .ok (.ifCond .ne 15, 3) := by decide +kernel
theorem dL_law_269 : decode cL_law 269 = .ok (.aload_n 3, 1) := by decide +kernel
theorem dL_law_270 : decode cL_law 270 = .ok (.iconst 0, 1) := by decide +kernel
theorem dL_law_271 : decode cL_law 271 = .ok (.laload, 1) := by decide +kernel
theorem dL_law_272 : decode cL_law 272 = .ok (.iload 6, 2) := by decide +kernel
theorem dL_law_274 : decode cL_law 274 = .ok (.i2l, 1) := by decide +kernel
theorem dL_law_275 : decode cL_law 275 = .ok (.lcmp, 1) := by decide +kernel
theorem dL_law_276 : decode cL_law 276 = .ok (.ifCond .eq 5, 3) := by decide +kernel
theorem dL_law_279 : decode cL_law 279 = .ok (.iconst 0, 1) := by decide +kernel
theorem dL_law_280 : decode cL_law 280 = .ok (.ireturn, 1) := by decide +kernel
theorem dL_law_281 : decode cL_law 281 = .ok (.goto 1166, 3) := by decide +kernel
theorem dL_law_284 : decode cL_law 284 = .ok (.aload_n 1, 1) := by decide +kernel
theorem dL_law_285 : decode cL_law 285 = .ok (.aload_n 0, 1) := by decide +kernel
theorem dL_law_286 : decode cL_law 286 = .ok (.iload 4, 2) := by decide +kernel
theorem dL_law_288 : decode cL_law 288 = .ok (.iconst 1, 1) := by decide +kernel
theorem dL_law_289 : decode cL_law 289 = .ok (.iadd, 1) := by decide +kernel
theorem dL_law_290 : decode cL_law 290 = .ok (.iaload, 1) := by decide +kernel
theorem dL_law_291 : decode cL_law 291 = .ok (.aload_n 0, 1) := by decide +kernel
theorem dL_law_292 : decode cL_law 292 = .ok (.iload 4, 2) := by decide +kernel
theorem dL_law_294 : decode cL_law 294 = .ok (.iconst 2, 1) := by decide +kernel
theorem dL_law_295 : decode cL_law 295 = .ok (.iadd, 1) := by decide +kernel
theorem dL_law_296 : decode cL_law 296 = .ok (.iaload, 1) := by decide +kernel
theorem dL_law_297 : decode cL_law 297 = .ok (.ifCond .eq 7, 3) := by decide +kernel
theorem dL_law_300 : decode cL_law 300 = .ok (.iconst 1, 1) := by decide +kernel
theorem dL_law_301 : decode cL_law 301 = .ok (.goto 4, 3) := by decide +kernel
theorem dL_law_304 : decode cL_law 304 = .ok (.iconst 0, 1) := by decide +kernel
theorem dL_law_305 : decode cL_law 305 = .ok (.aload_n 3, 1) := by decide +kernel
theorem dL_law_306 : decode cL_law 306 = .ok (.invokestatic 92, 3) := by decide +kernel
theorem dL_law_309 : decode cL_law 309 = .ok (.istore 5, 2) := by decide +kernel
theorem dL_law_311 : decode cL_law 311 = .ok (.aload_n 2, 1) := by decide +kernel
theorem dL_law_312 : decode cL_law 312 = .ok (.aload_n 0, 1) := by decide +kernel
theorem dL_law_313 : decode cL_law 313 = .ok (.iload 4, 2) := by decide +kernel
theorem dL_law_315 : decode cL_law 315 = .ok (.iconst 1, 1) := by decide +kernel
theorem dL_law_316 : decode cL_law 316 = .ok (.iadd, 1) := by decide +kernel
theorem dL_law_317 : decode cL_law 317 = .ok (.iaload, 1) := by decide +kernel
theorem dL_law_318 : decode cL_law 318 = .ok (.aload_n 0, 1) := by decide +kernel
theorem dL_law_319 : decode cL_law 319 = .ok (.iload 4, 2) := by decide +kernel
theorem dL_law_321 : decode cL_law 321 = .ok (.iconst 2, 1) := by decide +kernel
theorem dL_law_322 : decode cL_law 322 = .ok (.iadd, 1) := by decide +kernel
theorem dL_law_323 : decode cL_law 323 = .ok (.iaload, 1) := by decide +kernel
theorem dL_law_324 : decode cL_law 324 = .ok (.ifCond .eq 7, 3) := by decide +kernel
theorem dL_law_327 : decode cL_law 327 = .ok (.iconst 1, 1) := by decide +kernel
theorem dL_law_328 : decode cL_law 328 = .ok (.goto 4, 3) := by decide +kernel
theorem dL_law_331 : decode cL_law 331 = .ok (.iconst 0, 1) := by decide +kernel
theorem dL_law_332 : decode cL_law 332 = .ok (.invokevirtual 95, 3) := by decide +kernel
theorem dL_law_335 : decode cL_law 335 = .ok (.istore 6, 2) := by decide +kernel
theorem dL_law_337 : decode cL_law 337 = .ok (.aload_n 2, 1) := by decide +kernel
theorem dL_law_338 : decode cL_law 338 = .ok (.invokevirtual 84, 3) := by decide +kernel
theorem dL_law_341 : decode cL_law 341 = .ok (.iload 5, 2) := by decide +kernel
theorem dL_law_343 : decode cL_law 343 = .ok (.if_icmp .eq 5, 3) := by decide +kernel
theorem dL_law_346 : decode cL_law 346 = .ok (.iconst 0, 1) := by decide +kernel
theorem dL_law_347 : decode cL_law 347 = .ok (.ireturn, 1) := by decide +kernel
theorem dL_law_348 : decode cL_law 348 = .ok (.iload 5, 2) := by decide +kernel
theorem dL_law_350 : decode cL_law 350 = .ok (.ifCond .ne 15, 3) := by decide +kernel
theorem dL_law_353 : decode cL_law 353 = .ok (.aload_n 3, 1) := by decide +kernel
theorem dL_law_354 : decode cL_law 354 = .ok (.iconst 0, 1) := by decide +kernel
theorem dL_law_355 : decode cL_law 355 = .ok (.laload, 1) := by decide +kernel
theorem dL_law_356 : decode cL_law 356 = .ok (.iload 6, 2) := by decide +kernel
theorem dL_law_358 : decode cL_law 358 = .ok (.i2l, 1) := by decide +kernel
theorem dL_law_359 : decode cL_law 359 = .ok (.lcmp, 1) := by decide +kernel
theorem dL_law_360 : decode cL_law 360 = .ok (.ifCond .eq 5, 3) := by decide +kernel
theorem dL_law_363 : decode cL_law 363 = .ok (.iconst 0, 1) := by decide +kernel
theorem dL_law_364 : decode cL_law 364 = .ok (.ireturn, 1) := by decide +kernel
theorem dL_law_365 : decode cL_law 365 = .ok (.goto 1082, 3) := by decide +kernel
theorem dL_law_368 : decode cL_law 368 = .ok (.aload_n 1, 1) := by decide +kernel
theorem dL_law_369 : decode cL_law 369 = .ok (.aload_n 0, 1) := by decide +kernel
theorem dL_law_370 : decode cL_law 370 = .ok (.iload 4, 2) := by decide +kernel
theorem dL_law_372 : decode cL_law 372 = .ok (.iconst 1, 1) := by decide +kernel
theorem dL_law_373 : decode cL_law 373 = .ok (.iadd, 1) := by decide +kernel
theorem dL_law_374 : decode cL_law 374 = .ok (.iaload, 1) := by decide +kernel
theorem dL_law_375 : decode cL_law 375 = .ok (.aload_n 0, 1) := by decide +kernel
theorem dL_law_376 : decode cL_law 376 = .ok (.iload 4, 2) := by decide +kernel
theorem dL_law_378 : decode cL_law 378 = .ok (.iconst 2, 1) := by decide +kernel
theorem dL_law_379 : decode cL_law 379 = .ok (.iadd, 1) := by decide +kernel
theorem dL_law_380 : decode cL_law 380 = .ok (.iaload, 1) := by decide +kernel
theorem dL_law_381 : decode cL_law 381 = .ok (.aload_n 0, 1) := by decide +kernel
theorem dL_law_382 : decode cL_law 382 = .ok (.iload 4, 2) := by decide +kernel
theorem dL_law_384 : decode cL_law 384 = .ok (.iconst 3, 1) := by decide +kernel
theorem dL_law_385 : decode cL_law 385 = .ok (.iadd, 1) := by decide +kernel
theorem dL_law_386 : decode cL_law 386 = .ok (.iaload, 1) := by decide +kernel
theorem dL_law_387 : decode cL_law 387 = .ok (.aload_n 3, 1) := by decide +kernel
theorem dL_law_388 : decode cL_law 388 = .ok (.invokestatic 96, 3) := by decide +kernel
theorem dL_law_391 : decode cL_law 391 = .ok (.istore 5, 2) := by decide +kernel
theorem dL_law_393 : decode cL_law 393 = .ok (.aload_n 2, 1) := by decide +kernel
theorem dL_law_394 : decode cL_law 394 = .ok (.aload_n 0, 1) := by decide +kernel
theorem dL_law_395 : decode cL_law 395 = .ok (.iload 4, 2) := by decide +kernel
theorem dL_law_397 : decode cL_law 397 = .ok (.iconst 1, 1) := by decide +kernel
theorem dL_law_398 : decode cL_law 398 = .ok (.iadd, 1) := by decide +kernel
theorem dL_law_399 : decode cL_law 399 = .ok (.iaload, 1) := by decide +kernel
theorem dL_law_400 : decode cL_law 400 = .ok (.aload_n 0, 1) := by decide +kernel
theorem dL_law_401 : decode cL_law 401 = .ok (.iload 4, 2) := by decide +kernel
theorem dL_law_403 : decode cL_law 403 = .ok (.iconst 2, 1) := by decide +kernel
theorem dL_law_404 : decode cL_law 404 = .ok (.iadd, 1) := by decide +kernel
theorem dL_law_405 : decode cL_law 405 = .ok (.iaload, 1) := by decide +kernel
theorem dL_law_406 : decode cL_law 406 = .ok (.aload_n 0, 1) := by decide +kernel
theorem dL_law_407 : decode cL_law 407 = .ok (.iload 4, 2) := by decide +kernel
theorem dL_law_409 : decode cL_law 409 = .ok (.iconst 3, 1) := by decide +kernel
theorem dL_law_410 : decode cL_law 410 = .ok (.iadd, 1) := by decide +kernel
theorem dL_law_411 : decode cL_law 411 = .ok (.iaload, 1) := by decide +kernel
theorem dL_law_412 : decode cL_law 412 = .ok (.invokevirtual 99, 3) := by decide +kernel
theorem dL_law_415 : decode cL_law 415 = .ok (.istore 6, 2) := by decide +kernel
theorem dL_law_417 : decode cL_law 417 = .ok (.aload_n 2, 1) := by decide +kernel
theorem dL_law_418 : decode cL_law 418 = .ok (.invokevirtual 84, 3) := by decide +kernel
theorem dL_law_421 : decode cL_law 421 = .ok (.iload 5, 2) := by decide +kernel
theorem dL_law_423 : decode cL_law 423 = .ok (.if_icmp .eq 5, 3) := by decide +kernel
theorem dL_law_426 : decode cL_law 426 = .ok (.iconst 0, 1) := by decide +kernel
theorem dL_law_427 : decode cL_law 427 = .ok (.ireturn, 1) := by decide +kernel
theorem dL_law_428 : decode cL_law 428 = .ok (.iload 5, 2) := by decide +kernel
theorem dL_law_430 : decode cL_law 430 = .ok (.ifCond .ne 15, 3) := by decide +kernel
theorem dL_law_433 : decode cL_law 433 = .ok (.aload_n 3, 1) := by decide +kernel
theorem dL_law_434 : decode cL_law 434 = .ok (.iconst 0, 1) := by decide +kernel
theorem dL_law_435 : decode cL_law 435 = .ok (.laload, 1) := by decide +kernel
theorem dL_law_436 : decode cL_law 436 = .ok (.iload 6, 2) := by decide +kernel
theorem dL_law_438 : decode cL_law 438 = .ok (.i2l, 1) := by decide +kernel
theorem dL_law_439 : decode cL_law 439 = .ok (.lcmp, 1) := by decide +kernel
theorem dL_law_440 : decode cL_law 440 = .ok (.ifCond .eq 5, 3) := by decide +kernel
theorem dL_law_443 : decode cL_law 443 = .ok (.iconst 0, 1) := by decide +kernel
theorem dL_law_444 : decode cL_law 444 = .ok (.ireturn, 1) := by decide +kernel
theorem dL_law_445 : decode cL_law 445 = .ok (.goto 1002, 3) := by decide +kernel
theorem dL_law_448 : decode cL_law 448 = .ok (.aload_n 1, 1) := by decide +kernel
theorem dL_law_449 : decode cL_law 449 = .ok (.aload_n 0, 1) := by decide +kernel
theorem dL_law_450 : decode cL_law 450 = .ok (.iload 4, 2) := by decide +kernel
theorem dL_law_452 : decode cL_law 452 = .ok (.iconst 1, 1) := by decide +kernel
theorem dL_law_453 : decode cL_law 453 = .ok (.iadd, 1) := by decide +kernel
theorem dL_law_454 : decode cL_law 454 = .ok (.iaload, 1) := by decide +kernel
theorem dL_law_455 : decode cL_law 455 = .ok (.aload_n 0, 1) := by decide +kernel
theorem dL_law_456 : decode cL_law 456 = .ok (.iload 4, 2) := by decide +kernel
theorem dL_law_458 : decode cL_law 458 = .ok (.iconst 2, 1) := by decide +kernel
theorem dL_law_459 : decode cL_law 459 = .ok (.iadd, 1) := by decide +kernel
theorem dL_law_460 : decode cL_law 460 = .ok (.iaload, 1) := by decide +kernel
theorem dL_law_461 : decode cL_law 461 = .ok (.aload_n 0, 1) := by decide +kernel
theorem dL_law_462 : decode cL_law 462 = .ok (.iload 4, 2) := by decide +kernel
theorem dL_law_464 : decode cL_law 464 = .ok (.iconst 3, 1) := by decide +kernel
theorem dL_law_465 : decode cL_law 465 = .ok (.iadd, 1) := by decide +kernel
theorem dL_law_466 : decode cL_law 466 = .ok (.iaload, 1) := by decide +kernel
theorem dL_law_467 : decode cL_law 467 = .ok (.ifCond .eq 7, 3) := by decide +kernel
theorem dL_law_470 : decode cL_law 470 = .ok (.iconst 1, 1) := by decide +kernel
theorem dL_law_471 : decode cL_law 471 = .ok (.goto 4, 3) := by decide +kernel
theorem dL_law_474 : decode cL_law 474 = .ok (.iconst 0, 1) := by decide +kernel
theorem dL_law_475 : decode cL_law 475 = .ok (.aload_n 3, 1) := by decide +kernel
theorem dL_law_476 : decode cL_law 476 = .ok (.invokestatic 100, 3) := by decide +kernel
theorem dL_law_479 : decode cL_law 479 = .ok (.istore 5, 2) := by decide +kernel
theorem dL_law_481 : decode cL_law 481 = .ok (.aload_n 2, 1) := by decide +kernel
theorem dL_law_482 : decode cL_law 482 = .ok (.aload_n 0, 1) := by decide +kernel
theorem dL_law_483 : decode cL_law 483 = .ok (.iload 4, 2) := by decide +kernel
theorem dL_law_485 : decode cL_law 485 = .ok (.iconst 1, 1) := by decide +kernel
theorem dL_law_486 : decode cL_law 486 = .ok (.iadd, 1) := by decide +kernel
theorem dL_law_487 : decode cL_law 487 = .ok (.iaload, 1) := by decide +kernel
theorem dL_law_488 : decode cL_law 488 = .ok (.aload_n 0, 1) := by decide +kernel
theorem dL_law_489 : decode cL_law 489 = .ok (.iload 4, 2) := by decide +kernel
theorem dL_law_491 : decode cL_law 491 = .ok (.iconst 2, 1) := by decide +kernel
theorem dL_law_492 : decode cL_law 492 = .ok (.iadd, 1) := by decide +kernel
theorem dL_law_493 : decode cL_law 493 = .ok (.iaload, 1) := by decide +kernel
theorem dL_law_494 : decode cL_law 494 = .ok (.aload_n 0, 1) := by decide +kernel
theorem dL_law_495 : decode cL_law 495 = .ok (.iload 4, 2) := by decide +kernel
theorem dL_law_497 : decode cL_law 497 = .ok (.iconst 3, 1) := by decide +kernel
theorem dL_law_498 : decode cL_law 498 = .ok (.iadd, 1) := by decide +kernel
theorem dL_law_499 : decode cL_law 499 = .ok (.iaload, 1) := by decide +kernel
theorem dL_law_500 : decode cL_law 500 = .ok (.ifCond .eq 7, 3) := by decide +kernel
theorem dL_law_503 : decode cL_law 503 = .ok (.iconst 1, 1) := by decide +kernel
theorem dL_law_504 : decode cL_law 504 = .ok (.goto 4, 3) := by decide +kernel
theorem dL_law_507 : decode cL_law 507 = .ok (.iconst 0, 1) := by decide +kernel
theorem dL_law_508 : decode cL_law 508 = .ok (.invokevirtual 102, 3) := by decide +kernel
theorem dL_law_511 : decode cL_law 511 = .ok (.istore 6, 2) := by decide +kernel
theorem dL_law_513 : decode cL_law 513 = .ok (.aload_n 2, 1) := by decide +kernel
theorem dL_law_514 : decode cL_law 514 = .ok (.invokevirtual 84, 3) := by decide +kernel
theorem dL_law_517 : decode cL_law 517 = .ok (.iload 5, 2) := by decide +kernel
theorem dL_law_519 : decode cL_law 519 = .ok (.if_icmp .eq 5, 3) := by decide +kernel
theorem dL_law_522 : decode cL_law 522 = .ok (.iconst 0, 1) := by decide +kernel
theorem dL_law_523 : decode cL_law 523 = .ok (.ireturn, 1) := by decide +kernel
theorem dL_law_524 : decode cL_law 524 = .ok (.iload 5, 2) := by decide +kernel
theorem dL_law_526 : decode cL_law 526 = .ok (.ifCond .ne 15, 3) := by decide +kernel
theorem dL_law_529 : decode cL_law 529 = .ok (.aload_n 3, 1) := by decide +kernel
theorem dL_law_530 : decode cL_law 530 = .ok (.iconst 0, 1) := by decide +kernel
theorem dL_law_531 : decode cL_law 531 = .ok (.laload, 1) := by decide +kernel
theorem dL_law_532 : decode cL_law 532 = .ok (.iload 6, 2) := by decide +kernel
theorem dL_law_534 : decode cL_law 534 = .ok (.i2l, 1) := by decide +kernel
theorem dL_law_535 : decode cL_law 535 = .ok (.lcmp, 1) := by decide +kernel
theorem dL_law_536 : decode cL_law 536 = .ok (.ifCond .eq 5, 3) := by decide +kernel
theorem dL_law_539 : decode cL_law 539 = .ok (.iconst 0, 1) := by decide +kernel
theorem dL_law_540 : decode cL_law 540 = .ok (.ireturn, 1) := by decide +kernel
theorem dL_law_541 : decode cL_law 541 = .ok (.goto 906, 3) := by decide +kernel
theorem dL_law_544 : decode cL_law 544 = .ok (.aload_n 1, 1) := by decide +kernel
theorem dL_law_545 : decode cL_law 545 = .ok (.aload_n 0, 1) := by decide +kernel
theorem dL_law_546 : decode cL_law 546 = .ok (.iload 4, 2) := by decide +kernel
theorem dL_law_548 : decode cL_law 548 = .ok (.iconst 1, 1) := by decide +kernel
theorem dL_law_549 : decode cL_law 549 = .ok (.iadd, 1) := by decide +kernel
theorem dL_law_550 : decode cL_law 550 = .ok (.iaload, 1) := by decide +kernel
theorem dL_law_551 : decode cL_law 551 = .ok (.aload_n 0, 1) := by decide +kernel
theorem dL_law_552 : decode cL_law 552 = .ok (.iload 4, 2) := by decide +kernel
theorem dL_law_554 : decode cL_law 554 = .ok (.iconst 2, 1) := by decide +kernel
theorem dL_law_555 : decode cL_law 555 = .ok (.iadd, 1) := by decide +kernel
theorem dL_law_556 : decode cL_law 556 = .ok (.iaload, 1) := by decide +kernel
theorem dL_law_557 : decode cL_law 557 = .ok (.aload_n 3, 1) := by decide +kernel
theorem dL_law_558 : decode cL_law 558 = .ok (.invokestatic 103, 3) := by decide +kernel
theorem dL_law_561 : decode cL_law 561 = .ok (.istore 5, 2) := by decide +kernel
theorem dL_law_563 : decode cL_law 563 = .ok (.aload_n 2, 1) := by decide +kernel
theorem dL_law_564 : decode cL_law 564 = .ok (.aload_n 0, 1) := by decide +kernel
theorem dL_law_565 : decode cL_law 565 = .ok (.iload 4, 2) := by decide +kernel
theorem dL_law_567 : decode cL_law 567 = .ok (.iconst 1, 1) := by decide +kernel
theorem dL_law_568 : decode cL_law 568 = .ok (.iadd, 1) := by decide +kernel
theorem dL_law_569 : decode cL_law 569 = .ok (.iaload, 1) := by decide +kernel
theorem dL_law_570 : decode cL_law 570 = .ok (.aload_n 0, 1) := by decide +kernel
theorem dL_law_571 : decode cL_law 571 = .ok (.iload 4, 2) := by decide +kernel
theorem dL_law_573 : decode cL_law 573 = .ok (.iconst 2, 1) := by decide +kernel
theorem dL_law_574 : decode cL_law 574 = .ok (.iadd, 1) := by decide +kernel
theorem dL_law_575 : decode cL_law 575 = .ok (.iaload, 1) := by decide +kernel
theorem dL_law_576 : decode cL_law 576 = .ok (.invokevirtual 106, 3) := by decide +kernel
theorem dL_law_579 : decode cL_law 579 = .ok (.istore 6, 2) := by decide +kernel
theorem dL_law_581 : decode cL_law 581 = .ok (.aload_n 2, 1) := by decide +kernel
theorem dL_law_582 : decode cL_law 582 = .ok (.invokevirtual 84, 3) := by decide +kernel
theorem dL_law_585 : decode cL_law 585 = .ok (.iload 5, 2) := by decide +kernel
theorem dL_law_587 : decode cL_law 587 = .ok (.if_icmp .eq 5, 3) := by decide +kernel
theorem dL_law_590 : decode cL_law 590 = .ok (.iconst 0, 1) := by decide +kernel
theorem dL_law_591 : decode cL_law 591 = .ok (.ireturn, 1) := by decide +kernel
theorem dL_law_592 : decode cL_law 592 = .ok (.iload 5, 2) := by decide +kernel
theorem dL_law_594 : decode cL_law 594 = .ok (.ifCond .ne 15, 3) := by decide +kernel
theorem dL_law_597 : decode cL_law 597 = .ok (.aload_n 3, 1) := by decide +kernel
theorem dL_law_598 : decode cL_law 598 = .ok (.iconst 0, 1) := by decide +kernel
theorem dL_law_599 : decode cL_law 599 = .ok (.laload, 1) := by decide +kernel
theorem dL_law_600 : decode cL_law 600 = .ok (.iload 6, 2) := by decide +kernel
theorem dL_law_602 : decode cL_law 602 = .ok (.i2l, 1) := by decide +kernel
theorem dL_law_603 : decode cL_law 603 = .ok (.lcmp, 1) := by decide +kernel
theorem dL_law_604 : decode cL_law 604 = .ok (.ifCond .eq 5, 3) := by decide +kernel
theorem dL_law_607 : decode cL_law 607 = .ok (.iconst 0, 1) := by decide +kernel
theorem dL_law_608 : decode cL_law 608 = .ok (.ireturn, 1) := by decide +kernel
theorem dL_law_609 : decode cL_law 609 = .ok (.goto 838, 3) := by decide +kernel
theorem dL_law_612 : decode cL_law 612 = .ok (.aload_n 1, 1) := by decide +kernel
theorem dL_law_613 : decode cL_law 613 = .ok (.aload_n 0, 1) := by decide +kernel
theorem dL_law_614 : decode cL_law 614 = .ok (.iload 4, 2) := by decide +kernel
theorem dL_law_616 : decode cL_law 616 = .ok (.iconst 1, 1) := by decide +kernel
theorem dL_law_617 : decode cL_law 617 = .ok (.iadd, 1) := by decide +kernel
theorem dL_law_618 : decode cL_law 618 = .ok (.iaload, 1) := by decide +kernel
theorem dL_law_619 : decode cL_law 619 = .ok (.aload_n 0, 1) := by decide +kernel
theorem dL_law_620 : decode cL_law 620 = .ok (.iload 4, 2) := by decide +kernel
theorem dL_law_622 : decode cL_law 622 = .ok (.iconst 2, 1) := by decide +kernel
theorem dL_law_623 : decode cL_law 623 = .ok (.iadd, 1) := by decide +kernel
theorem dL_law_624 : decode cL_law 624 = .ok (.iaload, 1) := by decide +kernel
theorem dL_law_625 : decode cL_law 625 = .ok (.aload_n 3, 1) := by decide +kernel
theorem dL_law_626 : decode cL_law 626 = .ok (.invokestatic 107, 3) := by decide +kernel
theorem dL_law_629 : decode cL_law 629 = .ok (.istore 5, 2) := by decide +kernel
theorem dL_law_631 : decode cL_law 631 = .ok (.aload_n 2, 1) := by decide +kernel
theorem dL_law_632 : decode cL_law 632 = .ok (.aload_n 0, 1) := by decide +kernel
theorem dL_law_633 : decode cL_law 633 = .ok (.iload 4, 2) := by decide +kernel
theorem dL_law_635 : decode cL_law 635 = .ok (.iconst 1, 1) := by decide +kernel
theorem dL_law_636 : decode cL_law 636 = .ok (.iadd, 1) := by decide +kernel
theorem dL_law_637 : decode cL_law 637 = .ok (.iaload, 1) := by decide +kernel
theorem dL_law_638 : decode cL_law 638 = .ok (.aload_n 0, 1) := by decide +kernel
theorem dL_law_639 : decode cL_law 639 = .ok (.iload 4, 2) := by decide +kernel
theorem dL_law_641 : decode cL_law 641 = .ok (.iconst 2, 1) := by decide +kernel
theorem dL_law_642 : decode cL_law 642 = .ok (.iadd, 1) := by decide +kernel
theorem dL_law_643 : decode cL_law 643 = .ok (.iaload, 1) := by decide +kernel
theorem dL_law_644 : decode cL_law 644 = .ok (.invokevirtual 109, 3) := by decide +kernel
theorem dL_law_647 : decode cL_law 647 = .ok (.istore 6, 2) := by decide +kernel
theorem dL_law_649 : decode cL_law 649 = .ok (.aload_n 2, 1) := by decide +kernel
theorem dL_law_650 : decode cL_law 650 = .ok (.invokevirtual 84, 3) := by decide +kernel
theorem dL_law_653 : decode cL_law 653 = .ok (.iload 5, 2) := by decide +kernel
theorem dL_law_655 : decode cL_law 655 = .ok (.if_icmp .eq 5, 3) := by decide +kernel
theorem dL_law_658 : decode cL_law 658 = .ok (.iconst 0, 1) := by decide +kernel
theorem dL_law_659 : decode cL_law 659 = .ok (.ireturn, 1) := by decide +kernel
theorem dL_law_660 : decode cL_law 660 = .ok (.iload 5, 2) := by decide +kernel
theorem dL_law_662 : decode cL_law 662 = .ok (.ifCond .ne 15, 3) := by decide +kernel
theorem dL_law_665 : decode cL_law 665 = .ok (.aload_n 3, 1) := by decide +kernel
theorem dL_law_666 : decode cL_law 666 = .ok (.iconst 0, 1) := by decide +kernel
theorem dL_law_667 : decode cL_law 667 = .ok (.laload, 1) := by decide +kernel
theorem dL_law_668 : decode cL_law 668 = .ok (.iload 6, 2) := by decide +kernel
theorem dL_law_670 : decode cL_law 670 = .ok (.i2l, 1) := by decide +kernel
theorem dL_law_671 : decode cL_law 671 = .ok (.lcmp, 1) := by decide +kernel
theorem dL_law_672 : decode cL_law 672 = .ok (.ifCond .eq 5, 3) := by decide +kernel
theorem dL_law_675 : decode cL_law 675 = .ok (.iconst 0, 1) := by decide +kernel
theorem dL_law_676 : decode cL_law 676 = .ok (.ireturn, 1) := by decide +kernel
theorem dL_law_677 : decode cL_law 677 = .ok (.goto 770, 3) := by decide +kernel
theorem dL_law_680 : decode cL_law 680 = .ok (.aload_n 1, 1) := by decide +kernel
theorem dL_law_681 : decode cL_law 681 = .ok (.aload_n 0, 1) := by decide +kernel
theorem dL_law_682 : decode cL_law 682 = .ok (.iload 4, 2) := by decide +kernel
theorem dL_law_684 : decode cL_law 684 = .ok (.iconst 1, 1) := by decide +kernel
theorem dL_law_685 : decode cL_law 685 = .ok (.iadd, 1) := by decide +kernel
theorem dL_law_686 : decode cL_law 686 = .ok (.iaload, 1) := by decide +kernel
theorem dL_law_687 : decode cL_law 687 = .ok (.aload_n 0, 1) := by decide +kernel
theorem dL_law_688 : decode cL_law 688 = .ok (.iload 4, 2) := by decide +kernel
theorem dL_law_690 : decode cL_law 690 = .ok (.iconst 2, 1) := by decide +kernel
theorem dL_law_691 : decode cL_law 691 = .ok (.iadd, 1) := by decide +kernel
theorem dL_law_692 : decode cL_law 692 = .ok (.iaload, 1) := by decide +kernel
theorem dL_law_693 : decode cL_law 693 = .ok (.aload_n 3, 1) := by decide +kernel
theorem dL_law_694 : decode cL_law 694 = .ok (.invokestatic 110, 3) := by decide +kernel
theorem dL_law_697 : decode cL_law 697 = .ok (.istore 5, 2) := by decide +kernel
theorem dL_law_699 : decode cL_law 699 = .ok (.aload_n 2, 1) := by decide +kernel
theorem dL_law_700 : decode cL_law 700 = .ok (.aload_n 0, 1) := by decide +kernel
theorem dL_law_701 : decode cL_law 701 = .ok (.iload 4, 2) := by decide +kernel
theorem dL_law_703 : decode cL_law 703 = .ok (.iconst 1, 1) := by decide +kernel
theorem dL_law_704 : decode cL_law 704 = .ok (.iadd, 1) := by decide +kernel
theorem dL_law_705 : decode cL_law 705 = .ok (.iaload, 1) := by decide +kernel
theorem dL_law_706 : decode cL_law 706 = .ok (.aload_n 0, 1) := by decide +kernel
theorem dL_law_707 : decode cL_law 707 = .ok (.iload 4, 2) := by decide +kernel
theorem dL_law_709 : decode cL_law 709 = .ok (.iconst 2, 1) := by decide +kernel
theorem dL_law_710 : decode cL_law 710 = .ok (.iadd, 1) := by decide +kernel
theorem dL_law_711 : decode cL_law 711 = .ok (.iaload, 1) := by decide +kernel
theorem dL_law_712 : decode cL_law 712 = .ok (.invokevirtual 112, 3) := by decide +kernel
theorem dL_law_715 : decode cL_law 715 = .ok (.istore 6, 2) := by decide +kernel
theorem dL_law_717 : decode cL_law 717 = .ok (.aload_n 2, 1) := by decide +kernel
theorem dL_law_718 : decode cL_law 718 = .ok (.invokevirtual 84, 3) := by decide +kernel
theorem dL_law_721 : decode cL_law 721 = .ok (.iload 5, 2) := by decide +kernel
theorem dL_law_723 : decode cL_law 723 = .ok (.if_icmp .eq 5, 3) := by decide +kernel
theorem dL_law_726 : decode cL_law 726 = .ok (.iconst 0, 1) := by decide +kernel
theorem dL_law_727 : decode cL_law 727 = .ok (.ireturn, 1) := by decide +kernel
theorem dL_law_728 : decode cL_law 728 = .ok (.iload 5, 2) := by decide +kernel
theorem dL_law_730 : decode cL_law 730 = .ok (.ifCond .ne 15, 3) := by decide +kernel
theorem dL_law_733 : decode cL_law 733 = .ok (.aload_n 3, 1) := by decide +kernel
theorem dL_law_734 : decode cL_law 734 = .ok (.iconst 0, 1) := by decide +kernel
theorem dL_law_735 : decode cL_law 735 = .ok (.laload, 1) := by decide +kernel
theorem dL_law_736 : decode cL_law 736 = .ok (.iload 6, 2) := by decide +kernel
theorem dL_law_738 : decode cL_law 738 = .ok (.i2l, 1) := by decide +kernel
theorem dL_law_739 : decode cL_law 739 = .ok (.lcmp, 1) := by decide +kernel
theorem dL_law_740 : decode cL_law 740 = .ok (.ifCond .eq 5, 3) := by decide +kernel
theorem dL_law_743 : decode cL_law 743 = .ok (.iconst 0, 1) := by decide +kernel
theorem dL_law_744 : decode cL_law 744 = .ok (.ireturn, 1) := by decide +kernel
theorem dL_law_745 : decode cL_law 745 = .ok (.goto 702, 3) := by decide +kernel
theorem dL_law_748 : decode cL_law 748 = .ok (.aload_n 1, 1) := by decide +kernel
theorem dL_law_749 : decode cL_law 749 = .ok (.aload_n 0, 1) := by decide +kernel
theorem dL_law_750 : decode cL_law 750 = .ok (.iload 4, 2) := by decide +kernel
theorem dL_law_752 : decode cL_law 752 = .ok (.iconst 1, 1) := by decide +kernel
theorem dL_law_753 : decode cL_law 753 = .ok (.iadd, 1) := by decide +kernel
theorem dL_law_754 : decode cL_law 754 = .ok (.iaload, 1) := by decide +kernel
theorem dL_law_755 : decode cL_law 755 = .ok (.aload_n 0, 1) := by decide +kernel
theorem dL_law_756 : decode cL_law 756 = .ok (.iload 4, 2) := by decide +kernel
theorem dL_law_758 : decode cL_law 758 = .ok (.iconst 2, 1) := by decide +kernel
theorem dL_law_759 : decode cL_law 759 = .ok (.iadd, 1) := by decide +kernel
theorem dL_law_760 : decode cL_law 760 = .ok (.iaload, 1) := by decide +kernel
theorem dL_law_761 : decode cL_law 761 = .ok (.aload_n 0, 1) := by decide +kernel
theorem dL_law_762 : decode cL_law 762 = .ok (.iload 4, 2) := by decide +kernel
theorem dL_law_764 : decode cL_law 764 = .ok (.iconst 3, 1) := by decide +kernel
theorem dL_law_765 : decode cL_law 765 = .ok (.iadd, 1) := by decide +kernel
theorem dL_law_766 : decode cL_law 766 = .ok (.iaload, 1) := by decide +kernel
theorem dL_law_767 : decode cL_law 767 = .ok (.aload_n 3, 1) := by decide +kernel
theorem dL_law_768 : decode cL_law 768 = .ok (.invokestatic 113, 3) := by decide +kernel
theorem dL_law_771 : decode cL_law 771 = .ok (.istore 5, 2) := by decide +kernel
theorem dL_law_773 : decode cL_law 773 = .ok (.aload_n 2, 1) := by decide +kernel
theorem dL_law_774 : decode cL_law 774 = .ok (.aload_n 0, 1) := by decide +kernel
theorem dL_law_775 : decode cL_law 775 = .ok (.iload 4, 2) := by decide +kernel
theorem dL_law_777 : decode cL_law 777 = .ok (.iconst 1, 1) := by decide +kernel
theorem dL_law_778 : decode cL_law 778 = .ok (.iadd, 1) := by decide +kernel
theorem dL_law_779 : decode cL_law 779 = .ok (.iaload, 1) := by decide +kernel
theorem dL_law_780 : decode cL_law 780 = .ok (.aload_n 0, 1) := by decide +kernel
theorem dL_law_781 : decode cL_law 781 = .ok (.iload 4, 2) := by decide +kernel
theorem dL_law_783 : decode cL_law 783 = .ok (.iconst 2, 1) := by decide +kernel
theorem dL_law_784 : decode cL_law 784 = .ok (.iadd, 1) := by decide +kernel
theorem dL_law_785 : decode cL_law 785 = .ok (.iaload, 1) := by decide +kernel
theorem dL_law_786 : decode cL_law 786 = .ok (.aload_n 0, 1) := by decide +kernel
theorem dL_law_787 : decode cL_law 787 = .ok (.iload 4, 2) := by decide +kernel
theorem dL_law_789 : decode cL_law 789 = .ok (.iconst 3, 1) := by decide +kernel
theorem dL_law_790 : decode cL_law 790 = .ok (.iadd, 1) := by decide +kernel
theorem dL_law_791 : decode cL_law 791 = .ok (.iaload, 1) := by decide +kernel
theorem dL_law_792 : decode cL_law 792 = .ok (.invokevirtual 115, 3) := by decide +kernel
theorem dL_law_795 : decode cL_law 795 = .ok (.istore 6, 2) := by decide +kernel
theorem dL_law_797 : decode cL_law 797 = .ok (.aload_n 2, 1) := by decide +kernel
theorem dL_law_798 : decode cL_law 798 = .ok (.invokevirtual 84, 3) := by decide +kernel
theorem dL_law_801 : decode cL_law 801 = .ok (.iload 5, 2) := by decide +kernel
theorem dL_law_803 : decode cL_law 803 = .ok (.if_icmp .eq 5, 3) := by decide +kernel
theorem dL_law_806 : decode cL_law 806 = .ok (.iconst 0, 1) := by decide +kernel
theorem dL_law_807 : decode cL_law 807 = .ok (.ireturn, 1) := by decide +kernel
theorem dL_law_808 : decode cL_law 808 = .ok (.iload 5, 2) := by decide +kernel
theorem dL_law_810 : decode cL_law 810 = .ok (.ifCond .ne 15, 3) := by decide +kernel
theorem dL_law_813 : decode cL_law 813 = .ok (.aload_n 3, 1) := by decide +kernel
theorem dL_law_814 : decode cL_law 814 = .ok (.iconst 0, 1) := by decide +kernel
theorem dL_law_815 : decode cL_law 815 = .ok (.laload, 1) := by decide +kernel
theorem dL_law_816 : decode cL_law 816 = .ok (.iload 6, 2) := by decide +kernel
theorem dL_law_818 : decode cL_law 818 = .ok (.i2l, 1) := by decide +kernel
theorem dL_law_819 : decode cL_law 819 = .ok (.lcmp, 1) := by decide +kernel
theorem dL_law_820 : decode cL_law 820 = .ok (.ifCond .eq 5, 3) := by decide +kernel
theorem dL_law_823 : decode cL_law 823 = .ok (.iconst 0, 1) := by decide +kernel
theorem dL_law_824 : decode cL_law 824 = .ok (.ireturn, 1) := by decide +kernel
theorem dL_law_825 : decode cL_law 825 = .ok (.goto 622, 3) := by decide +kernel
theorem dL_law_828 : decode cL_law 828 = .ok (.aload_n 1, 1) := by decide +kernel
theorem dL_law_829 : decode cL_law 829 = .ok (.aload_n 0, 1) := by decide +kernel
theorem dL_law_830 : decode cL_law 830 = .ok (.iload 4, 2) := by decide +kernel
theorem dL_law_832 : decode cL_law 832 = .ok (.iconst 1, 1) := by decide +kernel
theorem dL_law_833 : decode cL_law 833 = .ok (.iadd, 1) := by decide +kernel
theorem dL_law_834 : decode cL_law 834 = .ok (.iaload, 1) := by decide +kernel
theorem dL_law_835 : decode cL_law 835 = .ok (.aload_n 3, 1) := by decide +kernel
theorem dL_law_836 : decode cL_law 836 = .ok (.invokestatic 116, 3) := by decide +kernel
theorem dL_law_839 : decode cL_law 839 = .ok (.istore 5, 2) := by decide +kernel
theorem dL_law_841 : decode cL_law 841 = .ok (.aload_n 2, 1) := by decide +kernel
theorem dL_law_842 : decode cL_law 842 = .ok (.aload_n 0, 1) := by decide +kernel
theorem dL_law_843 : decode cL_law 843 = .ok (.iload 4, 2) := by decide +kernel
theorem dL_law_845 : decode cL_law 845 = .ok (.iconst 1, 1) := by decide +kernel
theorem dL_law_846 : decode cL_law 846 = .ok (.iadd, 1) := by decide +kernel
theorem dL_law_847 : decode cL_law 847 = .ok (.iaload, 1) := by decide +kernel
theorem dL_law_848 : decode cL_law 848 = .ok (.invokevirtual 118, 3) := by decide +kernel
theorem dL_law_851 : decode cL_law 851 = .ok (.istore 6, 2) := by decide +kernel
theorem dL_law_853 : decode cL_law 853 = .ok (.aload_n 2, 1) := by decide +kernel
theorem dL_law_854 : decode cL_law 854 = .ok (.invokevirtual 84, 3) := by decide +kernel
theorem dL_law_857 : decode cL_law 857 = .ok (.iload 5, 2) := by decide +kernel
theorem dL_law_859 : decode cL_law 859 = .ok (.if_icmp .eq 5, 3) := by decide +kernel
theorem dL_law_862 : decode cL_law 862 = .ok (.iconst 0, 1) := by decide +kernel
theorem dL_law_863 : decode cL_law 863 = .ok (.ireturn, 1) := by decide +kernel
theorem dL_law_864 : decode cL_law 864 = .ok (.iload 5, 2) := by decide +kernel
theorem dL_law_866 : decode cL_law 866 = .ok (.ifCond .ne 15, 3) := by decide +kernel
theorem dL_law_869 : decode cL_law 869 = .ok (.aload_n 3, 1) := by decide +kernel
theorem dL_law_870 : decode cL_law 870 = .ok (.iconst 0, 1) := by decide +kernel
theorem dL_law_871 : decode cL_law 871 = .ok (.laload, 1) := by decide +kernel
theorem dL_law_872 : decode cL_law 872 = .ok (.iload 6, 2) := by decide +kernel
theorem dL_law_874 : decode cL_law 874 = .ok (.i2l, 1) := by decide +kernel
theorem dL_law_875 : decode cL_law 875 = .ok (.lcmp, 1) := by decide +kernel
theorem dL_law_876 : decode cL_law 876 = .ok (.ifCond .eq 5, 3) := by decide +kernel
theorem dL_law_879 : decode cL_law 879 = .ok (.iconst 0, 1) := by decide +kernel
theorem dL_law_880 : decode cL_law 880 = .ok (.ireturn, 1) := by decide +kernel
theorem dL_law_881 : decode cL_law 881 = .ok (.goto 566, 3) := by decide +kernel
theorem dL_law_884 : decode cL_law 884 = .ok (.aload_n 1, 1) := by decide +kernel
theorem dL_law_885 : decode cL_law 885 = .ok (.aload_n 0, 1) := by decide +kernel
theorem dL_law_886 : decode cL_law 886 = .ok (.iload 4, 2) := by decide +kernel
theorem dL_law_888 : decode cL_law 888 = .ok (.iconst 1, 1) := by decide +kernel
theorem dL_law_889 : decode cL_law 889 = .ok (.iadd, 1) := by decide +kernel
theorem dL_law_890 : decode cL_law 890 = .ok (.iaload, 1) := by decide +kernel
theorem dL_law_891 : decode cL_law 891 = .ok (.aload_n 0, 1) := by decide +kernel
theorem dL_law_892 : decode cL_law 892 = .ok (.iload 4, 2) := by decide +kernel
theorem dL_law_894 : decode cL_law 894 = .ok (.iconst 2, 1) := by decide +kernel
theorem dL_law_895 : decode cL_law 895 = .ok (.iadd, 1) := by decide +kernel
theorem dL_law_896 : decode cL_law 896 = .ok (.iaload, 1) := by decide +kernel
theorem dL_law_897 : decode cL_law 897 = .ok (.aload_n 3, 1) := by decide +kernel
theorem dL_law_898 : decode cL_law 898 = .ok (.invokestatic 119, 3) := by decide +kernel
theorem dL_law_901 : decode cL_law 901 = .ok (.istore 5, 2) := by decide +kernel
theorem dL_law_903 : decode cL_law 903 = .ok (.aload_n 2, 1) := by decide +kernel
theorem dL_law_904 : decode cL_law 904 = .ok (.aload_n 0, 1) := by decide +kernel
theorem dL_law_905 : decode cL_law 905 = .ok (.iload 4, 2) := by decide +kernel
theorem dL_law_907 : decode cL_law 907 = .ok (.iconst 1, 1) := by decide +kernel
theorem dL_law_908 : decode cL_law 908 = .ok (.iadd, 1) := by decide +kernel
theorem dL_law_909 : decode cL_law 909 = .ok (.iaload, 1) := by decide +kernel
theorem dL_law_910 : decode cL_law 910 = .ok (.aload_n 0, 1) := by decide +kernel
theorem dL_law_911 : decode cL_law 911 = .ok (.iload 4, 2) := by decide +kernel
theorem dL_law_913 : decode cL_law 913 = .ok (.iconst 2, 1) := by decide +kernel
theorem dL_law_914 : decode cL_law 914 = .ok (.iadd, 1) := by decide +kernel
theorem dL_law_915 : decode cL_law 915 = .ok (.iaload, 1) := by decide +kernel
theorem dL_law_916 : decode cL_law 916 = .ok (.invokevirtual 121, 3) := by decide +kernel
theorem dL_law_919 : decode cL_law 919 = .ok (.istore 6, 2) := by decide +kernel
theorem dL_law_921 : decode cL_law 921 = .ok (.aload_n 2, 1) := by decide +kernel
theorem dL_law_922 : decode cL_law 922 = .ok (.invokevirtual 84, 3) := by decide +kernel
theorem dL_law_925 : decode cL_law 925 = .ok (.iload 5, 2) := by decide +kernel
theorem dL_law_927 : decode cL_law 927 = .ok (.if_icmp .eq 5, 3) := by decide +kernel
theorem dL_law_930 : decode cL_law 930 = .ok (.iconst 0, 1) := by decide +kernel
theorem dL_law_931 : decode cL_law 931 = .ok (.ireturn, 1) := by decide +kernel
theorem dL_law_932 : decode cL_law 932 = .ok (.iload 5, 2) := by decide +kernel
theorem dL_law_934 : decode cL_law 934 = .ok (.ifCond .ne 15, 3) := by decide +kernel
theorem dL_law_937 : decode cL_law 937 = .ok (.aload_n 3, 1) := by decide +kernel
theorem dL_law_938 : decode cL_law 938 = .ok (.iconst 0, 1) := by decide +kernel
theorem dL_law_939 : decode cL_law 939 = .ok (.laload, 1) := by decide +kernel
theorem dL_law_940 : decode cL_law 940 = .ok (.iload 6, 2) := by decide +kernel
theorem dL_law_942 : decode cL_law 942 = .ok (.i2l, 1) := by decide +kernel
theorem dL_law_943 : decode cL_law 943 = .ok (.lcmp, 1) := by decide +kernel
theorem dL_law_944 : decode cL_law 944 = .ok (.ifCond .eq 5, 3) := by decide +kernel
theorem dL_law_947 : decode cL_law 947 = .ok (.iconst 0, 1) := by decide +kernel
theorem dL_law_948 : decode cL_law 948 = .ok (.ireturn, 1) := by decide +kernel
theorem dL_law_949 : decode cL_law 949 = .ok (.goto 498, 3) := by decide +kernel
theorem dL_law_952 : decode cL_law 952 = .ok (.aload_n 1, 1) := by decide +kernel
theorem dL_law_953 : decode cL_law 953 = .ok (.aload_n 0, 1) := by decide +kernel
theorem dL_law_954 : decode cL_law 954 = .ok (.iload 4, 2) := by decide +kernel
theorem dL_law_956 : decode cL_law 956 = .ok (.iconst 1, 1) := by decide +kernel
theorem dL_law_957 : decode cL_law 957 = .ok (.iadd, 1) := by decide +kernel
theorem dL_law_958 : decode cL_law 958 = .ok (.iaload, 1) := by decide +kernel
theorem dL_law_959 : decode cL_law 959 = .ok (.aload_n 3, 1) := by decide +kernel
theorem dL_law_960 : decode cL_law 960 = .ok (.invokestatic 122, 3) := by decide +kernel
theorem dL_law_963 : decode cL_law 963 = .ok (.istore 5, 2) := by decide +kernel
theorem dL_law_965 : decode cL_law 965 = .ok (.aload_n 2, 1) := by decide +kernel
theorem dL_law_966 : decode cL_law 966 = .ok (.aload_n 0, 1) := by decide +kernel
theorem dL_law_967 : decode cL_law 967 = .ok (.iload 4, 2) := by decide +kernel
theorem dL_law_969 : decode cL_law 969 = .ok (.iconst 1, 1) := by decide +kernel
theorem dL_law_970 : decode cL_law 970 = .ok (.iadd, 1) := by decide +kernel
theorem dL_law_971 : decode cL_law 971 = .ok (.iaload, 1) := by decide +kernel
theorem dL_law_972 : decode cL_law 972 = .ok (.invokevirtual 124, 3) := by decide +kernel
theorem dL_law_975 : decode cL_law 975 = .ok (.istore 6, 2) := by decide +kernel
theorem dL_law_977 : decode cL_law 977 = .ok (.aload_n 2, 1) := by decide +kernel
theorem dL_law_978 : decode cL_law 978 = .ok (.invokevirtual 84, 3) := by decide +kernel
theorem dL_law_981 : decode cL_law 981 = .ok (.iload 5, 2) := by decide +kernel
theorem dL_law_983 : decode cL_law 983 = .ok (.if_icmp .eq 5, 3) := by decide +kernel
theorem dL_law_986 : decode cL_law 986 = .ok (.iconst 0, 1) := by decide +kernel
theorem dL_law_987 : decode cL_law 987 = .ok (.ireturn, 1) := by decide +kernel
theorem dL_law_988 : decode cL_law 988 = .ok (.iload 5, 2) := by decide +kernel
theorem dL_law_990 : decode cL_law 990 = .ok (.ifCond .ne 15, 3) := by decide +kernel
theorem dL_law_993 : decode cL_law 993 = .ok (.aload_n 3, 1) := by decide +kernel
theorem dL_law_994 : decode cL_law 994 = .ok (.iconst 0, 1) := by decide +kernel
theorem dL_law_995 : decode cL_law 995 = .ok (.laload, 1) := by decide +kernel
theorem dL_law_996 : decode cL_law 996 = .ok (.iload 6, 2) := by decide +kernel
theorem dL_law_998 : decode cL_law 998 = .ok (.i2l, 1) := by decide +kernel
theorem dL_law_999 : decode cL_law 999 = .ok (.lcmp, 1) := by decide +kernel
theorem dL_law_1000 : decode cL_law 1000 = .ok (.ifCond .eq 5, 3) := by decide +kernel
theorem dL_law_1003 : decode cL_law 1003 = .ok (.iconst 0, 1) := by decide +kernel
theorem dL_law_1004 : decode cL_law 1004 = .ok (.ireturn, 1) := by decide +kernel
theorem dL_law_1005 : decode cL_law 1005 = .ok (.goto 442, 3) := by decide +kernel
theorem dL_law_1008 : decode cL_law 1008 = .ok (.aload_n 1, 1) := by decide +kernel
theorem dL_law_1009 : decode cL_law 1009 = .ok (.aload_n 0, 1) := by decide +kernel
theorem dL_law_1010 : decode cL_law 1010 = .ok (.iload 4, 2) := by decide +kernel
theorem dL_law_1012 : decode cL_law 1012 = .ok (.iconst 1, 1) := by decide +kernel
theorem dL_law_1013 : decode cL_law 1013 = .ok (.iadd, 1) := by decide +kernel
theorem dL_law_1014 : decode cL_law 1014 = .ok (.iaload, 1) := by decide +kernel
theorem dL_law_1015 : decode cL_law 1015 = .ok (.aload_n 3, 1) := by decide +kernel
theorem dL_law_1016 : decode cL_law 1016 = .ok (.invokestatic 125, 3) := by decide +kernel
theorem dL_law_1019 : decode cL_law 1019 = .ok (.istore 5, 2) := by decide +kernel
theorem dL_law_1021 : decode cL_law 1021 = .ok (.aload_n 2, 1) := by decide +kernel
theorem dL_law_1022 : decode cL_law 1022 = .ok (.aload_n 0, 1) := by decide +kernel
theorem dL_law_1023 : decode cL_law 1023 = .ok (.iload 4, 2) := by decide +kernel
theorem dL_law_1025 : decode cL_law 1025 = .ok (.iconst 1, 1) := by decide +kernel
theorem dL_law_1026 : decode cL_law 1026 = .ok (.iadd, 1) := by decide +kernel
theorem dL_law_1027 : decode cL_law 1027 = .ok (.iaload, 1) := by decide +kernel
theorem dL_law_1028 : decode cL_law 1028 = .ok (.invokevirtual 127, 3) := by decide +kernel
theorem dL_law_1031 : decode cL_law 1031 = .ok (.istore 6, 2) := by decide +kernel
theorem dL_law_1033 : decode cL_law 1033 = .ok (.aload_n 2, 1) := by decide +kernel
theorem dL_law_1034 : decode cL_law 1034 = .ok (.invokevirtual 84, 3) := by decide +kernel
theorem dL_law_1037 : decode cL_law 1037 = .ok (.iload 5, 2) := by decide +kernel
theorem dL_law_1039 : decode cL_law 1039 = .ok (.if_icmp .eq 5, 3) := by decide +kernel
theorem dL_law_1042 : decode cL_law 1042 = .ok (.iconst 0, 1) := by decide +kernel
theorem dL_law_1043 : decode cL_law 1043 = .ok (.ireturn, 1) := by decide +kernel
theorem dL_law_1044 : decode cL_law 1044 = .ok (.iload 5, 2) := by decide +kernel
theorem dL_law_1046 : decode cL_law 1046 = .ok (.ifCond .ne 15, 3) := by decide +kernel
theorem dL_law_1049 : decode cL_law 1049 = .ok (.aload_n 3, 1) := by decide +kernel
theorem dL_law_1050 : decode cL_law 1050 = .ok (.iconst 0, 1) := by decide +kernel
theorem dL_law_1051 : decode cL_law 1051 = .ok (.laload, 1) := by decide +kernel
theorem dL_law_1052 : decode cL_law 1052 = .ok (.iload 6, 2) := by decide +kernel
theorem dL_law_1054 : decode cL_law 1054 = .ok (.i2l, 1) := by decide +kernel
theorem dL_law_1055 : decode cL_law 1055 = .ok (.lcmp, 1) := by decide +kernel
theorem dL_law_1056 : decode cL_law 1056 = .ok (.ifCond .eq 5, 3) := by decide +kernel
theorem dL_law_1059 : decode cL_law 1059 = .ok (.iconst 0, 1) := by decide +kernel
theorem dL_law_1060 : decode cL_law 1060 = .ok (.ireturn, 1) := by decide +kernel
theorem dL_law_1061 : decode cL_law 1061 = .ok (.goto 386, 3) := by decide +kernel
theorem dL_law_1064 : decode cL_law 1064 = .ok (.aload_n 1, 1) := by decide +kernel
theorem dL_law_1065 : decode cL_law 1065 = .ok (.aload_n 0, 1) := by decide +kernel
theorem dL_law_1066 : decode cL_law 1066 = .ok (.iload 4, 2) := by decide +kernel
theorem dL_law_1068 : decode cL_law 1068 = .ok (.iconst 1, 1) := by decide +kernel
theorem dL_law_1069 : decode cL_law 1069 = .ok (.iadd, 1) := by decide +kernel
theorem dL_law_1070 : decode cL_law 1070 = .ok (.iaload, 1) := by decide +kernel
theorem dL_law_1071 : decode cL_law 1071 = .ok (.aload_n 0, 1) := by decide +kernel
theorem dL_law_1072 : decode cL_law 1072 = .ok (.iload 4, 2) := by decide +kernel
theorem dL_law_1074 : decode cL_law 1074 = .ok (.iconst 2, 1) := by decide +kernel
theorem dL_law_1075 : decode cL_law 1075 = .ok (.iadd, 1) := by decide +kernel
theorem dL_law_1076 : decode cL_law 1076 = .ok (.iaload, 1) := by decide +kernel
theorem dL_law_1077 : decode cL_law 1077 = .ok (.aload_n 0, 1) := by decide +kernel
theorem dL_law_1078 : decode cL_law 1078 = .ok (.iload 4, 2) := by decide +kernel
theorem dL_law_1080 : decode cL_law 1080 = .ok (.iconst 3, 1) := by decide +kernel
theorem dL_law_1081 : decode cL_law 1081 = .ok (.iadd, 1) := by decide +kernel
theorem dL_law_1082 : decode cL_law 1082 = .ok (.iaload, 1) := by decide +kernel
theorem dL_law_1083 : decode cL_law 1083 = .ok (.aload_n 3, 1) := by decide +kernel
theorem dL_law_1084 : decode cL_law 1084 = .ok (.invokestatic 128, 3) := by decide +kernel
theorem dL_law_1087 : decode cL_law 1087 = .ok (.istore 5, 2) := by decide +kernel
theorem dL_law_1089 : decode cL_law 1089 = .ok (.aload_n 2, 1) := by decide +kernel
theorem dL_law_1090 : decode cL_law 1090 = .ok (.aload_n 0, 1) := by decide +kernel
theorem dL_law_1091 : decode cL_law 1091 = .ok (.iload 4, 2) := by decide +kernel
theorem dL_law_1093 : decode cL_law 1093 = .ok (.iconst 1, 1) := by decide +kernel
theorem dL_law_1094 : decode cL_law 1094 = .ok (.iadd, 1) := by decide +kernel
theorem dL_law_1095 : decode cL_law 1095 = .ok (.iaload, 1) := by decide +kernel
theorem dL_law_1096 : decode cL_law 1096 = .ok (.aload_n 0, 1) := by decide +kernel
theorem dL_law_1097 : decode cL_law 1097 = .ok (.iload 4, 2) := by decide +kernel
theorem dL_law_1099 : decode cL_law 1099 = .ok (.iconst 2, 1) := by decide +kernel
theorem dL_law_1100 : decode cL_law 1100 = .ok (.iadd, 1) := by decide +kernel
theorem dL_law_1101 : decode cL_law 1101 = .ok (.iaload, 1) := by decide +kernel
theorem dL_law_1102 : decode cL_law 1102 = .ok (.aload_n 0, 1) := by decide +kernel
theorem dL_law_1103 : decode cL_law 1103 = .ok (.iload 4, 2) := by decide +kernel
theorem dL_law_1105 : decode cL_law 1105 = .ok (.iconst 3, 1) := by decide +kernel
theorem dL_law_1106 : decode cL_law 1106 = .ok (.iadd, 1) := by decide +kernel
theorem dL_law_1107 : decode cL_law 1107 = .ok (.iaload, 1) := by decide +kernel
theorem dL_law_1108 : decode cL_law 1108 = .ok (.invokevirtual 130, 3) := by decide +kernel
theorem dL_law_1111 : decode cL_law 1111 = .ok (.istore 6, 2) := by decide +kernel
theorem dL_law_1113 : decode cL_law 1113 = .ok (.aload_n 2, 1) := by decide +kernel
theorem dL_law_1114 : decode cL_law 1114 = .ok (.invokevirtual 84, 3) := by decide +kernel
theorem dL_law_1117 : decode cL_law 1117 = .ok (.iload 5, 2) := by decide +kernel
theorem dL_law_1119 : decode cL_law 1119 = .ok (.if_icmp .eq 5, 3) := by decide +kernel
theorem dL_law_1122 : decode cL_law 1122 = .ok (.iconst 0, 1) := by decide +kernel
theorem dL_law_1123 : decode cL_law 1123 = .ok (.ireturn, 1) := by decide +kernel
theorem dL_law_1124 : decode cL_law 1124 = .ok (.iload 5, 2) := by decide +kernel
theorem dL_law_1126 : decode cL_law 1126 = .ok (.ifCond .ne 15, 3) := by decide +kernel
theorem dL_law_1129 : decode cL_law 1129 = .ok (.aload_n 3, 1) := by decide +kernel
theorem dL_law_1130 : decode cL_law 1130 = .ok (.iconst 0, 1) := by decide +kernel
theorem dL_law_1131 : decode cL_law 1131 = .ok (.laload, 1) := by decide +kernel
theorem dL_law_1132 : decode cL_law 1132 = .ok (.iload 6, 2) := by decide +kernel
theorem dL_law_1134 : decode cL_law 1134 = .ok (.i2l, 1) := by decide +kernel
theorem dL_law_1135 : decode cL_law 1135 = .ok (.lcmp, 1) := by decide +kernel
theorem dL_law_1136 : decode cL_law 1136 = .ok (.ifCond .eq 5, 3) := by decide +kernel
theorem dL_law_1139 : decode cL_law 1139 = .ok (.iconst 0, 1) := by decide +kernel
theorem dL_law_1140 : decode cL_law 1140 = .ok (.ireturn, 1) := by decide +kernel
theorem dL_law_1141 : decode cL_law 1141 = .ok (.goto 306, 3) := by decide +kernel
theorem dL_law_1144 : decode cL_law 1144 = .ok (.aload_n 1, 1) := by decide +kernel
theorem dL_law_1145 : decode cL_law 1145 = .ok (.aload_n 0, 1) := by decide +kernel
theorem dL_law_1146 : decode cL_law 1146 = .ok (.iload 4, 2) := by decide +kernel
theorem dL_law_1148 : decode cL_law 1148 = .ok (.iconst 1, 1) := by decide +kernel
theorem dL_law_1149 : decode cL_law 1149 = .ok (.iadd, 1) := by decide +kernel
theorem dL_law_1150 : decode cL_law 1150 = .ok (.iaload, 1) := by decide +kernel
theorem dL_law_1151 : decode cL_law 1151 = .ok (.aload_n 0, 1) := by decide +kernel
theorem dL_law_1152 : decode cL_law 1152 = .ok (.iload 4, 2) := by decide +kernel
theorem dL_law_1154 : decode cL_law 1154 = .ok (.iconst 2, 1) := by decide +kernel
theorem dL_law_1155 : decode cL_law 1155 = .ok (.iadd, 1) := by decide +kernel
theorem dL_law_1156 : decode cL_law 1156 = .ok (.iaload, 1) := by decide +kernel
theorem dL_law_1157 : decode cL_law 1157 = .ok (.aload_n 3, 1) := by decide +kernel
theorem dL_law_1158 : decode cL_law 1158 = .ok (.invokestatic 131, 3) := by decide +kernel
theorem dL_law_1161 : decode cL_law 1161 = .ok (.istore 5, 2) := by decide +kernel
theorem dL_law_1163 : decode cL_law 1163 = .ok (.aload_n 2, 1) := by decide +kernel
theorem dL_law_1164 : decode cL_law 1164 = .ok (.aload_n 0, 1) := by decide +kernel
theorem dL_law_1165 : decode cL_law 1165 = .ok (.iload 4, 2) := by decide +kernel
theorem dL_law_1167 : decode cL_law 1167 = .ok (.iconst 1, 1) := by decide +kernel
theorem dL_law_1168 : decode cL_law 1168 = .ok (.iadd, 1) := by decide +kernel
theorem dL_law_1169 : decode cL_law 1169 = .ok (.iaload, 1) := by decide +kernel
theorem dL_law_1170 : decode cL_law 1170 = .ok (.aload_n 0, 1) := by decide +kernel
theorem dL_law_1171 : decode cL_law 1171 = .ok (.iload 4, 2) := by decide +kernel
theorem dL_law_1173 : decode cL_law 1173 = .ok (.iconst 2, 1) := by decide +kernel
theorem dL_law_1174 : decode cL_law 1174 = .ok (.iadd, 1) := by decide +kernel
theorem dL_law_1175 : decode cL_law 1175 = .ok (.iaload, 1) := by decide +kernel
theorem dL_law_1176 : decode cL_law 1176 = .ok (.invokevirtual 133, 3) := by decide +kernel
theorem dL_law_1179 : decode cL_law 1179 = .ok (.istore 6, 2) := by decide +kernel
theorem dL_law_1181 : decode cL_law 1181 = .ok (.aload_n 2, 1) := by decide +kernel
theorem dL_law_1182 : decode cL_law 1182 = .ok (.invokevirtual 84, 3) := by decide +kernel
theorem dL_law_1185 : decode cL_law 1185 = .ok (.iload 5, 2) := by decide +kernel
theorem dL_law_1187 : decode cL_law 1187 = .ok (.if_icmp .eq 5, 3) := by decide +kernel
theorem dL_law_1190 : decode cL_law 1190 = .ok (.iconst 0, 1) := by decide +kernel
theorem dL_law_1191 : decode cL_law 1191 = .ok (.ireturn, 1) := by decide +kernel
theorem dL_law_1192 : decode cL_law 1192 = .ok (.iload 5, 2) := by decide +kernel
theorem dL_law_1194 : decode cL_law 1194 = .ok (.ifCond .ne 15, 3) := by decide +kernel
theorem dL_law_1197 : decode cL_law 1197 = .ok (.aload_n 3, 1) := by decide +kernel
theorem dL_law_1198 : decode cL_law 1198 = .ok (.iconst 0, 1) := by decide +kernel
theorem dL_law_1199 : decode cL_law 1199 = .ok (.laload, 1) := by decide +kernel
theorem dL_law_1200 : decode cL_law 1200 = .ok (.iload 6, 2) := by decide +kernel
theorem dL_law_1202 : decode cL_law 1202 = .ok (.i2l, 1) := by decide +kernel
theorem dL_law_1203 : decode cL_law 1203 = .ok (.lcmp, 1) := by decide +kernel
theorem dL_law_1204 : decode cL_law 1204 = .ok (.ifCond .eq 5, 3) := by decide +kernel
theorem dL_law_1207 : decode cL_law 1207 = .ok (.iconst 0, 1) := by decide +kernel
theorem dL_law_1208 : decode cL_law 1208 = .ok (.ireturn, 1) := by decide +kernel
theorem dL_law_1209 : decode cL_law 1209 = .ok (.goto 238, 3) := by decide +kernel
theorem dL_law_1212 : decode cL_law 1212 = .ok (.aload_n 1, 1) := by decide +kernel
theorem dL_law_1213 : decode cL_law 1213 = .ok (.aload_n 0, 1) := by decide +kernel
theorem dL_law_1214 : decode cL_law 1214 = .ok (.iload 4, 2) := by decide +kernel
theorem dL_law_1216 : decode cL_law 1216 = .ok (.iconst 1, 1) := by decide +kernel
theorem dL_law_1217 : decode cL_law 1217 = .ok (.iadd, 1) := by decide +kernel
theorem dL_law_1218 : decode cL_law 1218 = .ok (.iaload, 1) := by decide +kernel
theorem dL_law_1219 : decode cL_law 1219 = .ok (.aload_n 0, 1) := by decide +kernel
theorem dL_law_1220 : decode cL_law 1220 = .ok (.iload 4, 2) := by decide +kernel
theorem dL_law_1222 : decode cL_law 1222 = .ok (.iconst 2, 1) := by decide +kernel
theorem dL_law_1223 : decode cL_law 1223 = .ok (.iadd, 1) := by decide +kernel
theorem dL_law_1224 : decode cL_law 1224 = .ok (.iaload, 1) := by decide +kernel
theorem dL_law_1225 : decode cL_law 1225 = .ok (.aload_n 3, 1) := by decide +kernel
theorem dL_law_1226 : decode cL_law 1226 = .ok (.invokestatic 134, 3) := by decide +kernel
theorem dL_law_1229 : decode cL_law 1229 = .ok (.istore 5, 2) := by decide +kernel
theorem dL_law_1231 : decode cL_law 1231 = .ok (.aload_n 2, 1) := by decide +kernel
theorem dL_law_1232 : decode cL_law 1232 = .ok (.aload_n 0, 1) := by decide +kernel
theorem dL_law_1233 : decode cL_law 1233 = .ok (.iload 4, 2) := by decide +kernel
theorem dL_law_1235 : decode cL_law 1235 = .ok (.iconst 1, 1) := by decide +kernel
theorem dL_law_1236 : decode cL_law 1236 = .ok (.iadd, 1) := by decide +kernel
theorem dL_law_1237 : decode cL_law 1237 = .ok (.iaload, 1) := by decide +kernel
theorem dL_law_1238 : decode cL_law 1238 = .ok (.aload_n 0, 1) := by decide +kernel
theorem dL_law_1239 : decode cL_law 1239 = .ok (.iload 4, 2) := by decide +kernel
theorem dL_law_1241 : decode cL_law 1241 = .ok (.iconst 2, 1) := by decide +kernel
theorem dL_law_1242 : decode cL_law 1242 = .ok (.iadd, 1) := by decide +kernel
theorem dL_law_1243 : decode cL_law 1243 = .ok (.iaload, 1) := by decide +kernel
theorem dL_law_1244 : decode cL_law 1244 = .ok (.invokevirtual 136, 3) := by decide +kernel
theorem dL_law_1247 : decode cL_law 1247 = .ok (.istore 6, 2) := by decide +kernel
theorem dL_law_1249 : decode cL_law 1249 = .ok (.aload_n 2, 1) := by decide +kernel
theorem dL_law_1250 : decode cL_law 1250 = .ok (.invokevirtual 84, 3) := by decide +kernel
theorem dL_law_1253 : decode cL_law 1253 = .ok (.iload 5, 2) := by decide +kernel
theorem dL_law_1255 : decode cL_law 1255 = .ok (.if_icmp .eq 5, 3) := by decide +kernel
theorem dL_law_1258 : decode cL_law 1258 = .ok (.iconst 0, 1) := by decide +kernel
theorem dL_law_1259 : decode cL_law 1259 = .ok (.ireturn, 1) := by decide +kernel
theorem dL_law_1260 : decode cL_law 1260 = .ok (.iload 5, 2) := by decide +kernel
theorem dL_law_1262 : decode cL_law 1262 = .ok (.ifCond .ne 15, 3) := by decide +kernel
theorem dL_law_1265 : decode cL_law 1265 = .ok (.aload_n 3, 1) := by decide +kernel
theorem dL_law_1266 : decode cL_law 1266 = .ok (.iconst 0, 1) := by decide +kernel
theorem dL_law_1267 : decode cL_law 1267 = .ok (.laload, 1) := by decide +kernel
theorem dL_law_1268 : decode cL_law 1268 = .ok (.iload 6, 2) := by decide +kernel
theorem dL_law_1270 : decode cL_law 1270 = .ok (.i2l, 1) := by decide +kernel
theorem dL_law_1271 : decode cL_law 1271 = .ok (.lcmp, 1) := by decide +kernel
theorem dL_law_1272 : decode cL_law 1272 = .ok (.ifCond .eq 5, 3) := by decide +kernel
theorem dL_law_1275 : decode cL_law 1275 = .ok (.iconst 0, 1) := by decide +kernel
theorem dL_law_1276 : decode cL_law 1276 = .ok (.ireturn, 1) := by decide +kernel
theorem dL_law_1277 : decode cL_law 1277 = .ok (.goto 170, 3) := by decide +kernel
theorem dL_law_1280 : decode cL_law 1280 = .ok (.aload_n 1, 1) := by decide +kernel
theorem dL_law_1281 : decode cL_law 1281 = .ok (.aload_n 0, 1) := by decide +kernel
theorem dL_law_1282 : decode cL_law 1282 = .ok (.iload 4, 2) := by decide +kernel
theorem dL_law_1284 : decode cL_law 1284 = .ok (.iconst 1, 1) := by decide +kernel
theorem dL_law_1285 : decode cL_law 1285 = .ok (.iadd, 1) := by decide +kernel
theorem dL_law_1286 : decode cL_law 1286 = .ok (.iaload, 1) := by decide +kernel
theorem dL_law_1287 : decode cL_law 1287 = .ok (.aload_n 3, 1) := by decide +kernel
theorem dL_law_1288 : decode cL_law 1288 = .ok (.invokestatic 137, 3) := by decide +kernel
theorem dL_law_1291 : decode cL_law 1291 = .ok (.istore 5, 2) := by decide +kernel
theorem dL_law_1293 : decode cL_law 1293 = .ok (.aload_n 2, 1) := by decide +kernel
theorem dL_law_1294 : decode cL_law 1294 = .ok (.aload_n 0, 1) := by decide +kernel
theorem dL_law_1295 : decode cL_law 1295 = .ok (.iload 4, 2) := by decide +kernel
theorem dL_law_1297 : decode cL_law 1297 = .ok (.iconst 1, 1) := by decide +kernel
theorem dL_law_1298 : decode cL_law 1298 = .ok (.iadd, 1) := by decide +kernel
theorem dL_law_1299 : decode cL_law 1299 = .ok (.iaload, 1) := by decide +kernel
theorem dL_law_1300 : decode cL_law 1300 = .ok (.invokevirtual 139, 3) := by decide +kernel
theorem dL_law_1303 : decode cL_law 1303 = .ok (.istore 6, 2) := by decide +kernel
theorem dL_law_1305 : decode cL_law 1305 = .ok (.aload_n 2, 1) := by decide +kernel
theorem dL_law_1306 : decode cL_law 1306 = .ok (.invokevirtual 84, 3) := by decide +kernel
theorem dL_law_1309 : decode cL_law 1309 = .ok (.iload 5, 2) := by decide +kernel
theorem dL_law_1311 : decode cL_law 1311 = .ok (.if_icmp .eq 5, 3) := by decide +kernel
theorem dL_law_1314 : decode cL_law 1314 = .ok (.iconst 0, 1) := by decide +kernel
theorem dL_law_1315 : decode cL_law 1315 = .ok (.ireturn, 1) := by decide +kernel
theorem dL_law_1316 : decode cL_law 1316 = .ok (.iload 5, 2) := by decide +kernel
theorem dL_law_1318 : decode cL_law 1318 = .ok (.ifCond .ne 15, 3) := by decide +kernel
theorem dL_law_1321 : decode cL_law 1321 = .ok (.aload_n 3, 1) := by decide +kernel
theorem dL_law_1322 : decode cL_law 1322 = .ok (.iconst 0, 1) := by decide +kernel
theorem dL_law_1323 : decode cL_law 1323 = .ok (.laload, 1) := by decide +kernel
theorem dL_law_1324 : decode cL_law 1324 = .ok (.iload 6, 2) := by decide +kernel
theorem dL_law_1326 : decode cL_law 1326 = .ok (.i2l, 1) := by decide +kernel
theorem dL_law_1327 : decode cL_law 1327 = .ok (.lcmp, 1) := by decide +kernel
theorem dL_law_1328 : decode cL_law 1328 = .ok (.ifCond .eq 5, 3) := by decide +kernel
theorem dL_law_1331 : decode cL_law 1331 = .ok (.iconst 0, 1) := by decide +kernel
theorem dL_law_1332 : decode cL_law 1332 = .ok (.ireturn, 1) := by decide +kernel
theorem dL_law_1333 : decode cL_law 1333 = .ok (.goto 114, 3) := by decide +kernel
theorem dL_law_1336 : decode cL_law 1336 = .ok (.aload_n 1, 1) := by decide +kernel
theorem dL_law_1337 : decode cL_law 1337 = .ok (.aload_n 0, 1) := by decide +kernel
theorem dL_law_1338 : decode cL_law 1338 = .ok (.iload 4, 2) := by decide +kernel
theorem dL_law_1340 : decode cL_law 1340 = .ok (.iconst 1, 1) := by decide +kernel
theorem dL_law_1341 : decode cL_law 1341 = .ok (.iadd, 1) := by decide +kernel
theorem dL_law_1342 : decode cL_law 1342 = .ok (.iaload, 1) := by decide +kernel
theorem dL_law_1343 : decode cL_law 1343 = .ok (.aload_n 3, 1) := by decide +kernel
theorem dL_law_1344 : decode cL_law 1344 = .ok (.invokestatic 140, 3) := by decide +kernel
theorem dL_law_1347 : decode cL_law 1347 = .ok (.istore 5, 2) := by decide +kernel
theorem dL_law_1349 : decode cL_law 1349 = .ok (.aload_n 2, 1) := by decide +kernel
theorem dL_law_1350 : decode cL_law 1350 = .ok (.aload_n 0, 1) := by decide +kernel
theorem dL_law_1351 : decode cL_law 1351 = .ok (.iload 4, 2) := by decide +kernel
theorem dL_law_1353 : decode cL_law 1353 = .ok (.iconst 1, 1) := by decide +kernel
theorem dL_law_1354 : decode cL_law 1354 = .ok (.iadd, 1) := by decide +kernel
theorem dL_law_1355 : decode cL_law 1355 = .ok (.iaload, 1) := by decide +kernel
theorem dL_law_1356 : decode cL_law 1356 = .ok (.invokevirtual 142, 3) := by decide +kernel
theorem dL_law_1359 : decode cL_law 1359 = .ok (.istore 6, 2) := by decide +kernel
theorem dL_law_1361 : decode cL_law 1361 = .ok (.aload_n 2, 1) := by decide +kernel
theorem dL_law_1362 : decode cL_law 1362 = .ok (.invokevirtual 84, 3) := by decide +kernel
theorem dL_law_1365 : decode cL_law 1365 = .ok (.iload 5, 2) := by decide +kernel
theorem dL_law_1367 : decode cL_law 1367 = .ok (.if_icmp .eq 5, 3) := by decide +kernel
theorem dL_law_1370 : decode cL_law 1370 = .ok (.iconst 0, 1) := by decide +kernel
theorem dL_law_1371 : decode cL_law 1371 = .ok (.ireturn, 1) := by decide +kernel
theorem dL_law_1372 : decode cL_law 1372 = .ok (.iload 5, 2) := by decide +kernel
theorem dL_law_1374 : decode cL_law 1374 = .ok (.ifCond .ne 15, 3) := by decide +kernel
theorem dL_law_1377 : decode cL_law 1377 = .ok (.aload_n 3, 1) := by decide +kernel
theorem dL_law_1378 : decode cL_law 1378 = .ok (.iconst 0, 1) := by decide +kernel
theorem dL_law_1379 : decode cL_law 1379 = .ok (.laload, 1) := by decide +kernel
theorem dL_law_1380 : decode cL_law 1380 = .ok (.iload 6, 2) := by decide +kernel
theorem dL_law_1382 : decode cL_law 1382 = .ok (.i2l, 1) := by decide +kernel
theorem dL_law_1383 : decode cL_law 1383 = .ok (.lcmp, 1) := by decide +kernel
theorem dL_law_1384 : decode cL_law 1384 = .ok (.ifCond .eq 5, 3) := by decide +kernel
theorem dL_law_1387 : decode cL_law 1387 = .ok (.iconst 0, 1) := by decide +kernel
theorem dL_law_1388 : decode cL_law 1388 = .ok (.ireturn, 1) := by decide +kernel
theorem dL_law_1389 : decode cL_law 1389 = .ok (.goto 58, 3) := by decide +kernel
theorem dL_law_1392 : decode cL_law 1392 = .ok (.aload_n 1, 1) := by decide +kernel
theorem dL_law_1393 : decode cL_law 1393 = .ok (.invokevirtual 143, 3) := by decide +kernel
theorem dL_law_1396 : decode cL_law 1396 = .ok (.dstore 5, 2) := by decide +kernel
theorem dL_law_1398 : decode cL_law 1398 = .ok (.aload_n 2, 1) := by decide +kernel
theorem dL_law_1399 : decode cL_law 1399 = .ok (.invokevirtual 147, 3) := by decide +kernel
theorem dL_law_1402 : decode cL_law 1402 = .ok (.dstore 7, 2) := by decide +kernel
theorem dL_law_1404 : decode cL_law 1404 = .ok (.dload 5, 2) := by decide +kernel
theorem dL_law_1406 : decode cL_law 1406 = .ok (.dload 7, 2) := by decide +kernel
theorem dL_law_1408 : decode cL_law 1408 = .ok (.dcmp .l, 1) := by decide +kernel
theorem dL_law_1409 : decode cL_law 1409 = .ok (.ifCond .eq 21, 3) := by decide +kernel
theorem dL_law_1412 : decode cL_law 1412 = .ok (.dload 5, 2) := by decide +kernel
theorem dL_law_1414 : decode cL_law 1414 = .ok (.dload 5, 2) := by decide +kernel
theorem dL_law_1416 : decode cL_law 1416 = .ok (.dcmp .l, 1) := by decide +kernel
theorem dL_law_1417 : decode cL_law 1417 = .ok (.ifCond .eq 11, 3) := by decide +kernel
theorem dL_law_1420 : decode cL_law 1420 = .ok (.dload 7, 2) := by decide +kernel
theorem dL_law_1422 : decode cL_law 1422 = .ok (.dload 7, 2) := by decide +kernel
theorem dL_law_1424 : decode cL_law 1424 = .ok (.dcmp .l, 1) := by decide +kernel
theorem dL_law_1425 : decode cL_law 1425 = .ok (.ifCond .ne 5, 3) := by decide +kernel
theorem dL_law_1428 : decode cL_law 1428 = .ok (.iconst 0, 1) := by decide +kernel
theorem dL_law_1429 : decode cL_law 1429 = .ok (.ireturn, 1) := by decide +kernel
theorem dL_law_1430 : decode cL_law 1430 = .ok (.goto 17, 3) := by decide +kernel
theorem dL_law_1433 : decode cL_law 1433 = .ok (.aload_n 1, 1) := by decide +kernel
theorem dL_law_1434 : decode cL_law 1434 = .ok (.invokevirtual 148, 3) := by decide +kernel
theorem dL_law_1437 : decode cL_law 1437 = .ok (.aload_n 2, 1) := by decide +kernel
theorem dL_law_1438 : decode cL_law 1438 = .ok (.invokevirtual 152, 3) := by decide +kernel
theorem dL_law_1441 : decode cL_law 1441 = .ok (.lcmp, 1) := by decide +kernel
theorem dL_law_1442 : decode cL_law 1442 = .ok (.ifCond .eq 5, 3) := by decide +kernel
theorem dL_law_1445 : decode cL_law 1445 = .ok (.iconst 0, 1) := by decide +kernel
theorem dL_law_1446 : decode cL_law 1446 = .ok (.ireturn, 1) := by decide +kernel
theorem dL_law_1447 : decode cL_law 1447 = .ok (.iinc 4 4, 3) := by decide +kernel
theorem dL_law_1450 : decode cL_law 1450 = .ok (.goto (-1427), 3) := by decide +kernel
theorem dL_law_1453 : decode cL_law 1453 = .ok (.iconst 1, 1) := by decide +kernel
theorem dL_law_1454 : decode cL_law 1454 = .ok (.ireturn, 1) := by decide +kernel
abbrev vwCl : List vw_C := [(RX0, TX0, 8), (RX1, TX1, 12), (RX2, TX2, 6), (RX3, TX3, 1), (RX4, TX4, 7), (RX5, TX5, 2), (RX6, TX6, 3), (RX7, TX7, 14)]
