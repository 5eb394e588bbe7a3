set_option maxRecDepth 20000 in
theorem ggX0_init_X3_init : GoodIn wsX0_init wsX3_init := goodIn_r _ [14, 15, 2, 3, 16, 17, 18, 19, 20, 21, 22] (by decide +kernel) (by decide +kernel)
set_option maxRecDepth 20000 in
theorem gX0_init_X3_init : GoodIn wsX0_init (wsX3_init) := ggX0_init_X3_init
theorem dX0_init_0 : decode cX0_init 0 = .ok (.aload_n 0, 1) := by decide +kernel
theorem dX0_init_1 : decode cX0_init 1 = .ok (.invokespecial 3, 3) := by decide +kernel
theorem dX0_init_4 : decode cX0_init 4 = .ok (.aload_n 0, 1) := by decide +kernel
theorem dX0_init_5 : decode cX0_init 5 = .ok (.new 9, 3) := by decide +kernel
theorem dX0_init_8 : decode cX0_init 8 = .ok (.dup, 1) := by decide +kernel
theorem dX0_init_9 : decode cX0_init 9 = .ok (.bipush 10, 2) := by decide +kernel
theorem dX0_init_11 : decode cX0_init 11 = .ok (.invokespecial 11, 3) := by decide +kernel
theorem dX0_init_14 : decode cX0_init 14 = .ok (.putfield 14, 3) := by decide +kernel
theorem dX0_init_17 : decode cX0_init 17 = .ok (.aload_n 0, 1) := by decide +kernel
theorem dX0_init_18 : decode cX0_init 18 = .ok (.new 9, 3) := by decide +kernel
theorem dX0_init_21 : decode cX0_init 21 = .ok (.dup, 1) := by decide +kernel
theorem dX0_init_22 : decode cX0_init 22 = .ok (.bipush 10, 2) := by decide +kernel
theorem dX0_init_24 : decode cX0_init 24 = .ok (.invokespecial 11, 3) := by decide +kernel
theorem dX0_init_27 : decode cX0_init 27 = .ok (.putfield 20, 3) := by decide +kernel
theorem dX0_init_30 : decode cX0_init 30 = .ok (.aload_n 0, 1) := by decide +kernel
theorem dX0_init_31 : decode cX0_init 31 = .ok (.new 9, 3) := by decide +kernel
theorem dX0_init_34 : decode cX0_init 34 = .ok (.dup, 1) := by decide +kernel
theorem dX0_init_35 : decode cX0_init 35 = .ok (.bipush 15, 2) := by decide +kernel
theorem dX0_init_37 : decode cX0_init 37 = .ok (.invokespecial 11, 3) := by decide +kernel
theorem dX0_init_40 : decode cX0_init 40 = .ok (.putfield 23, 3) := by decide +kernel
theorem dX0_init_43 : decode cX0_init 43 = .ok (.aload_n 0, 1) := by decide +kernel
theorem dX0_init_44 : decode cX0_init 44 = .ok (.new 9, 3) := by decide +kernel
theorem dX0_init_47 : decode cX0_init 47 = .ok (.dup, 1) := by decide +kernel
theorem dX0_init_48 : decode cX0_init 48 = .ok (.bipush 15, 2) := by decide +kernel
theorem dX0_init_50 : decode cX0_init 50 = .ok (.invokespecial 11, 3) := by decide +kernel
theorem dX0_init_53 : decode cX0_init 53 = .ok (.putfield 26, 3) := by decide +kernel
theorem dX0_init_56 : decode cX0_init 56 = .ok (.aload_n 0, 1) := by decide +kernel
theorem dX0_init_57 : decode cX0_init 57 = .ok (.new 9, 3) := by decide +kernel
theorem dX0_init_60 : decode cX0_init 60 = .ok (.dup, 1) := by decide +kernel
theorem dX0_init_61 : decode cX0_init 61 = .ok (.bipush 15, 2) := by decide +kernel
theorem dX0_init_63 : decode cX0_init 63 = .ok (.invokespecial 11, 3) := by decide +kernel
theorem dX0_init_66 : decode cX0_init 66 = .ok (.putfield 29, 3) := by decide +kernel
theorem dX0_init_69 : decode cX0_init 69 = .ok (.return_, 1) := by decide +kernel
set_option maxRecDepth 20000 in
theorem ggX0_putStation_X3_set : GoodIn wsX0_putStation wsX3_set := goodIn_r _ [7, 8, 17] (by decide +kernel) (by decide +kernel)
set_option maxRecDepth 20000 in
theorem gX0_putStation_X3_set : GoodIn wsX0_putStation (wsV RX0 36 RX3 yX3_set wsX3_set) := goodIn_app (goodIn_of _ (by decide +kernel)) ggX0_putStation_X3_set
theorem dX0_putStation_0 : decode cX0_putStation 0 = .ok (.aload_n 0, 1) := by decide +kernel
theorem dX0_putStation_1 : decode cX0_putStation 1 = .ok (.getfield 14, 3) := by decide +kernel
theorem dX0_putStation_4 : decode cX0_putStation 4 = .ok (.aload_n 0, 1) := by decide +kernel
theorem dX0_putStation_5 : decode cX0_putStation 5 = .ok (.getfield 32, 3) := by decide +kernel
theorem dX0_putStation_8 : decode cX0_putStation 8 = .ok (.iload_n 1, 1) := by decide +kernel
theorem dX0_putStation_9 : decode cX0_putStation 9 = .ok (.invokevirtual 36, 3) := by decide +kernel
theorem dX0_putStation_12 : decode cX0_putStation 12 = .ok (.aload_n 0, 1) := by decide +kernel
theorem dX0_putStation_13 : decode cX0_putStation 13 = .ok (.dup, 1) := by decide +kernel
theorem dX0_putStation_14 : decode cX0_putStation 14 = .ok (.getfield 32, 3) := by decide +kernel
theorem dX0_putStation_17 : decode cX0_putStation 17 = .ok (.iconst 1, 1) := by decide +kernel
theorem dX0_putStation_18 : decode cX0_putStation 18 = .ok (.iadd, 1) := by decide +kernel
theorem dX0_putStation_19 : decode cX0_putStation 19 = .ok (.putfield 32, 3) := by decide +kernel
theorem dX0_putStation_22 : decode cX0_putStation 22 = .ok (.aload_n 0, 1) := by decide +kernel
theorem dX0_putStation_23 : decode cX0_putStation 23 = .ok (.getfield 32, 3) := by decide +kernel
theorem dX0_putStation_26 : decode cX0_putStation 26 = .ok (.iconst 1, 1) := by decide +kernel
theorem dX0_putStation_27 : decode cX0_putStation 27 = .ok (.isub, 1) := by decide +kernel
theorem dX0_putStation_28 : decode cX0_putStation 28 = .ok (.ireturn, 1) := by decide +kernel
set_option maxRecDepth 20000 in
theorem ggX0_putSight_X3_get : GoodIn wsX0_putSight wsX3_get := goodIn_r _ [6, 7, 25] (by decide +kernel) (by decide +kernel)
set_option maxRecDepth 20000 in
theorem gX0_putSight_X3_get : GoodIn wsX0_putSight (wsV RX0 40 RX3 yX3_get wsX3_get) := goodIn_app (goodIn_of _ (by decide +kernel)) ggX0_putSight_X3_get
set_option maxRecDepth 20000 in
theorem ggX0_putSight_X6_with : GoodIn wsX0_putSight wsX6_with := goodIn_r _ [10] (by decide +kernel) (by decide +kernel)
set_option maxRecDepth 20000 in
theorem gX0_putSight_X6_with_n44 : GoodIn wsX0_putSight (wsX6_with) := ggX0_putSight_X6_with
set_option maxRecDepth 20000 in
theorem ggX0_putSight_X6_without : GoodIn wsX0_putSight wsX6_without := goodIn_r _ [12] (by decide +kernel) (by decide +kernel)
set_option maxRecDepth 20000 in
theorem gX0_putSight_X6_without_n48 : GoodIn wsX0_putSight (wsX6_without) := ggX0_putSight_X6_without
set_option maxRecDepth 20000 in
theorem ggX0_putSight_X3_set : GoodIn wsX0_putSight wsX3_set := goodIn_r _ [16, 7, 25] (by decide +kernel) (by decide +kernel)
set_option maxRecDepth 20000 in
theorem gX0_putSight_X3_set : GoodIn wsX0_putSight (wsV RX0 36 RX3 yX3_set wsX3_set) := goodIn_app (goodIn_of _ (by decide +kernel)) ggX0_putSight_X3_set
theorem dX0_putSight_0 : decode cX0_putSight 0 = .ok (.aload_n 0, 1) := by decide +kernel
theorem dX0_putSight_1 : decode cX0_putSight 1 = .ok (.getfield 20, 3) := by decide +kernel
theorem dX0_putSight_4 : decode cX0_putSight 4 = .ok (.iload_n 1, 1) := by decide +kernel
theorem dX0_putSight_5 : decode cX0_putSight 5 = .ok (.invokevirtual 40, 3) := by decide +kernel
theorem dX0_putSight_8 : decode cX0_putSight 8 = .ok (.istore 4, 2) := by decide +kernel
theorem dX0_putSight_10 : decode cX0_putSight 10 = .ok (.aload_n 0, 1) := by decide +kernel
theorem dX0_putSight_11 : decode cX0_putSight 11 = .ok (.getfield 20, 3) := by decide +kernel
theorem dX0_putSight_14 : decode cX0_putSight 14 = .ok (.iload_n 1, 1) := by decide +kernel
theorem dX0_putSight_15 : decode cX0_putSight 15 = .ok (.iload_n 3, 1) := by decide +kernel
theorem dX0_putSight_16 : decode cX0_putSight 16 = .ok (.ifCond .eq 12, 3) := by decide +kernel
theorem dX0_putSight_19 : decode cX0_putSight 19 = .ok (.iload 4, 2) := by decide +kernel
theorem dX0_putSight_21 : decode cX0_putSight 21 = .ok (.iload_n 2, 1) := by decide +kernel
theorem dX0_putSight_22 : decode cX0_putSight 22 = .ok (.invokestatic 44, 3) := by decide +kernel
theorem dX0_putSight_25 : decode cX0_putSight 25 = .ok (.goto 9, 3) := by decide +kernel
theorem dX0_putSight_28 : decode cX0_putSight 28 = .ok (.iload 4, 2) := by decide +kernel
theorem dX0_putSight_30 : decode cX0_putSight 30 = .ok (.iload_n 2, 1) := by decide +kernel
theorem dX0_putSight_31 : decode cX0_putSight 31 = .ok (.invokestatic 48, 3) := by decide +kernel
theorem dX0_putSight_34 : decode cX0_putSight 34 = .ok (.invokevirtual 36, 3) := by decide +kernel
theorem dX0_putSight_37 : decode cX0_putSight 37 = .ok (.return_, 1) := by decide +kernel
set_option maxRecDepth 20000 in
theorem ggX0_putRoad_X3_set : GoodIn wsX0_putRoad wsX3_set := goodIn_r _ [9, 10, 19] (by decide +kernel) (by decide +kernel)
set_option maxRecDepth 20000 in
theorem gX0_putRoad_X3_set : GoodIn wsX0_putRoad (wsV RX0 36 RX3 yX3_set wsX3_set) := goodIn_app (goodIn_of _ (by decide +kernel)) ggX0_putRoad_X3_set
theorem dX0_putRoad_0 : decode cX0_putRoad 0 = .ok (.aload_n 0, 1) := by decide +kernel
theorem dX0_putRoad_1 : decode cX0_putRoad 1 = .ok (.getfield 23, 3) := by decide +kernel
theorem dX0_putRoad_4 : decode cX0_putRoad 4 = .ok (.aload_n 0, 1) := by decide +kernel
theorem dX0_putRoad_5 : decode cX0_putRoad 5 = .ok (.getfield 51, 3) := by decide +kernel
theorem dX0_putRoad_8 : decode cX0_putRoad 8 = .ok (.iload_n 1, 1) := by decide +kernel
theorem dX0_putRoad_9 : decode cX0_putRoad 9 = .ok (.invokevirtual 36, 3) := by decide +kernel
theorem dX0_putRoad_12 : decode cX0_putRoad 12 = .ok (.aload_n 0, 1) := by decide +kernel
theorem dX0_putRoad_13 : decode cX0_putRoad 13 = .ok (.getfield 26, 3) := by decide +kernel
theorem dX0_putRoad_16 : decode cX0_putRoad 16 = .ok (.aload_n 0, 1) := by decide +kernel
theorem dX0_putRoad_17 : decode cX0_putRoad 17 = .ok (.getfield 51, 3) := by decide +kernel
theorem dX0_putRoad_20 : decode cX0_putRoad 20 = .ok (.iload_n 2, 1) := by decide +kernel
theorem dX0_putRoad_21 : decode cX0_putRoad 21 = .ok (.invokevirtual 36, 3) := by decide +kernel
theorem dX0_putRoad_24 : decode cX0_putRoad 24 = .ok (.aload_n 0, 1) := by decide +kernel
theorem dX0_putRoad_25 : decode cX0_putRoad 25 = .ok (.getfield 29, 3) := by decide +kernel
theorem dX0_putRoad_28 : decode cX0_putRoad 28 = .ok (.aload_n 0, 1) := by decide +kernel
theorem dX0_putRoad_29 : decode cX0_putRoad 29 = .ok (.getfield 51, 3) := by decide +kernel
theorem dX0_putRoad_32 : decode cX0_putRoad 32 = .ok (.iload_n 3, 1) := by decide +kernel
theorem dX0_putRoad_33 : decode cX0_putRoad 33 = .ok (.invokevirtual 36, 3) := by decide +kernel
theorem dX0_putRoad_36 : decode cX0_putRoad 36 = .ok (.aload_n 0, 1) := by decide +kernel
theorem dX0_putRoad_37 : decode cX0_putRoad 37 = .ok (.dup, 1) := by decide +kernel
theorem dX0_putRoad_38 : decode cX0_putRoad 38 = .ok (.getfield 51, 3) := by decide +kernel
theorem dX0_putRoad_41 : decode cX0_putRoad 41 = .ok (.iconst 1, 1) := by decide +kernel
theorem dX0_putRoad_42 : decode cX0_putRoad 42 = .ok (.iadd, 1) := by decide +kernel
theorem dX0_putRoad_43 : decode cX0_putRoad 43 = .ok (.putfield 51, 3) := by decide +kernel
theorem dX0_putRoad_46 : decode cX0_putRoad 46 = .ok (.aload_n 0, 1) := by decide +kernel
theorem dX0_putRoad_47 : decode cX0_putRoad 47 = .ok (.getfield 51, 3) := by decide +kernel
theorem dX0_putRoad_50 : decode cX0_putRoad 50 = .ok (.iconst 1, 1) := by decide +kernel
theorem dX0_putRoad_51 : decode cX0_putRoad 51 = .ok (.isub, 1) := by decide +kernel
theorem dX0_putRoad_52 : decode cX0_putRoad 52 = .ok (.ireturn, 1) := by decide +kernel
set_option maxRecDepth 20000 in
theorem ggX0_otherEnd_X3_get : GoodIn wsX0_otherEnd wsX3_get := goodIn_r _ [7, 8, 17] (by decide +kernel) (by decide +kernel)
set_option maxRecDepth 20000 in
theorem gX0_otherEnd_X3_get : GoodIn wsX0_otherEnd (wsV RX0 40 RX3 yX3_get wsX3_get) := goodIn_app (goodIn_of _ (by decide +kernel)) ggX0_otherEnd_X3_get
theorem dX0_otherEnd_0 : decode cX0_otherEnd 0 = .ok (.aload_n 0, 1) := by decide +kernel
theorem dX0_otherEnd_1 : decode cX0_otherEnd 1 = .ok (.getfield 23, 3) := by decide +kernel
theorem dX0_otherEnd_4 : decode cX0_otherEnd 4 = .ok (.iload_n 1, 1) := by decide +kernel
theorem dX0_otherEnd_5 : decode cX0_otherEnd 5 = .ok (.invokevirtual 40, 3) := by decide +kernel
theorem dX0_otherEnd_8 : decode cX0_otherEnd 8 = .ok (.istore_n 3, 1) := by decide +kernel
theorem dX0_otherEnd_9 : decode cX0_otherEnd 9 = .ok (.iload_n 2, 1) := by decide +kernel
theorem dX0_otherEnd_10 : decode cX0_otherEnd 10 = .ok (.iload_n 3, 1) := by decide +kernel
theorem dX0_otherEnd_11 : decode cX0_otherEnd 11 = .ok (.if_icmp .ne 14, 3) := by decide +kernel
theorem dX0_otherEnd_14 : decode cX0_otherEnd 14 = .ok (.aload_n 0, 1) := by decide +kernel
theorem dX0_otherEnd_15 : decode cX0_otherEnd 15 = .ok (.getfield 26, 3) := by decide +kernel
theorem dX0_otherEnd_18 : decode cX0_otherEnd 18 = .ok (.iload_n 1, 1) := by decide +kernel
theorem dX0_otherEnd_19 : decode cX0_otherEnd 19 = .ok (.invokevirtual 40, 3) := by decide +kernel
theorem dX0_otherEnd_22 : decode cX0_otherEnd 22 = .ok (.goto 4, 3) := by decide +kernel
theorem dX0_otherEnd_25 : decode cX0_otherEnd 25 = .ok (.iload_n 3, 1) := by decide +kernel
theorem dX0_otherEnd_26 : decode cX0_otherEnd 26 = .ok (.ireturn, 1) := by decide +kernel
set_option maxRecDepth 20000 in
theorem ggX0_hoursBetween_X3_get : GoodIn wsX0_hoursBetween wsX3_get := goodIn_r _ [11, 12, 21] (by decide +kernel) (by decide +kernel)
set_option maxRecDepth 20000 in
theorem gX0_hoursBetween_X3_get : GoodIn wsX0_hoursBetween (wsV RX0 40 RX3 yX3_get wsX3_get) := goodIn_app (goodIn_of _ (by decide +kernel)) ggX0_hoursBetween_X3_get
theorem dX0_hoursBetween_0 : decode cX0_hoursBetween 0 = .ok (.iconst 0, 1) := by decide +kernel
theorem dX0_hoursBetween_1 : decode cX0_hoursBetween 1 = .ok (.aload_n 0, 1) := by decide +kernel
theorem dX0_hoursBetween_2 : decode cX0_hoursBetween 2 = .ok (.getfield 14, 3) := by decide +kernel
theorem dX0_hoursBetween_5 : decode cX0_hoursBetween 5 = .ok (.iload_n 3, 1) := by decide +kernel
theorem dX0_hoursBetween_6 : decode cX0_hoursBetween 6 = .ok (.invokevirtual 40, 3) := by decide +kernel
theorem dX0_hoursBetween_9 : decode cX0_hoursBetween 9 = .ok (.aload_n 0, 1) := by decide +kernel
theorem dX0_hoursBetween_10 : decode cX0_hoursBetween 10 = .ok (.getfield 14, 3) := by decide +kernel
theorem dX0_hoursBetween_13 : decode cX0_hoursBetween 13 = .ok (.iload_n 2, 1) := by decide +kernel
theorem dX0_hoursBetween_14 : decode cX0_hoursBetween 14 = .ok (.invokevirtual 40, 3) := by decide +kernel
theorem dX0_hoursBetween_17 : decode cX0_hoursBetween 17 = .ok (.isub, 1) := by decide +kernel
theorem dX0_hoursBetween_18 : decode cX0_hoursBetween 18 = .ok (.invokestatic 54, 3) := by decide +kernel
theorem dX0_hoursBetween_21 : decode cX0_hoursBetween 21 = .ok (.istore 4, 2) := by decide +kernel
theorem dX0_hoursBetween_23 : decode cX0_hoursBetween 23 = .ok (.aload_n 0, 1) := by decide +kernel
theorem dX0_hoursBetween_24 : decode cX0_hoursBetween 24 = .ok (.getfield 29, 3) := by decide +kernel
theorem dX0_hoursBetween_27 : decode cX0_hoursBetween 27 = .ok (.iload_n 1, 1) := by decide +kernel
theorem dX0_hoursBetween_28 : decode cX0_hoursBetween 28 = .ok (.invokevirtual 40, 3) := by decide +kernel
theorem dX0_hoursBetween_31 : decode cX0_hoursBetween 31 = .ok (.iload 4, 2) := by decide +kernel
theorem dX0_hoursBetween_33 : decode cX0_hoursBetween 33 = .ok (.sipush 200, 3) := by decide +kernel
theorem dX0_hoursBetween_36 : decode cX0_hoursBetween 36 = .ok (.idiv, 1) := by decide +kernel
theorem dX0_hoursBetween_37 : decode cX0_hoursBetween 37 = .ok (.iadd, 1) := by decide +kernel
theorem dX0_hoursBetween_38 : decode cX0_hoursBetween 38 = .ok (.ireturn, 1) := by decide +kernel
set_option maxRecDepth 20000 in
theorem ggX0_litNext_X6_has : GoodIn wsX0_litNext wsX6_has := goodIn_r _ [6] (by decide +kernel) (by decide +kernel)
set_option maxRecDepth 20000 in
theorem gX0_litNext_X6_has_n62 : GoodIn wsX0_litNext (wsX6_has) := ggX0_litNext_X6_has
set_option maxRecDepth 20000 in
theorem ggX0_litNext_X3_get : GoodIn wsX0_litNext wsX3_get := goodIn_r _ [11, 12, 21] (by decide +kernel) (by decide +kernel)
set_option maxRecDepth 20000 in
theorem gX0_litNext_X3_get : GoodIn wsX0_litNext (wsV RX0 40 RX3 yX3_get wsX3_get) := goodIn_app (goodIn_of _ (by decide +kernel)) ggX0_litNext_X3_get
theorem dX0_litNext_0 : decode cX0_litNext 0 = .ok (.iload_n 1, 1) := by decide +kernel
theorem dX0_litNext_1 : decode cX0_litNext 1 = .ok (.istore_n 2, 1) := by decide +kernel
theorem dX0_litNext_2 : decode cX0_litNext 2 = .ok (.iload_n 1, 1) := by decide +kernel
theorem dX0_litNext_3 : decode cX0_litNext 3 = .ok (.aload_n 0, 1) := by decide +kernel
theorem dX0_litNext_4 : decode cX0_litNext 4 = .ok (.getfield 59, 3) := by decide +kernel
theorem dX0_litNext_7 : decode cX0_litNext 7 = .ok (.iconst (-1), 1) := by decide +kernel
theorem dX0_litNext_8 : decode cX0_litNext 8 = .ok (.ixor, 1) := by decide +kernel
theorem dX0_litNext_9 : decode cX0_litNext 9 = .ok (.iand, 1) := by decide +kernel
theorem dX0_litNext_10 : decode cX0_litNext 10 = .ok (.istore_n 3, 1) := by decide +kernel
theorem dX0_litNext_11 : decode cX0_litNext 11 = .ok (.iconst 0, 1) := by decide +kernel
theorem dX0_litNext_12 : decode cX0_litNext 12 = .ok (.istore 4, 2) := by decide +kernel
theorem dX0_litNext_14 : decode cX0_litNext 14 = .ok (.iload 4, 2) := by decide +kernel
theorem dX0_litNext_16 : decode cX0_litNext 16 = .ok (.aload_n 0, 1) := by decide +kernel
theorem dX0_litNext_17 : decode cX0_litNext 17 = .ok (.getfield 32, 3) := by decide +kernel
theorem dX0_litNext_20 : decode cX0_litNext 20 = .ok (.if_icmp .ge 37, 3) := by decide +kernel
theorem dX0_litNext_23 : decode cX0_litNext 23 = .ok (.iload_n 3, 1) := by decide +kernel
theorem dX0_litNext_24 : decode cX0_litNext 24 = .ok (.iload 4, 2) := by decide +kernel
theorem dX0_litNext_26 : decode cX0_litNext 26 = .ok (.invokestatic 62, 3) := by decide +kernel
theorem dX0_litNext_29 : decode cX0_litNext 29 = .ok (.ifCond .eq 22, 3) := by decide +kernel
theorem dX0_litNext_32 : decode cX0_litNext 32 = .ok (.iload_n 2, 1) := by decide +kernel
theorem dX0_litNext_33 : decode cX0_litNext 33 = .ok (.aload_n 0, 1) := by decide +kernel
theorem dX0_litNext_34 : decode cX0_litNext 34 = .ok (.getfield 20, 3) := by decide +kernel
theorem dX0_litNext_37 : decode cX0_litNext 37 = .ok (.iload 4, 2) := by decide +kernel
theorem dX0_litNext_39 : decode cX0_litNext 39 = .ok (.invokevirtual 40, 3) := by decide +kernel
theorem dX0_litNext_42 : decode cX0_litNext 42 = .ok (.aload_n 0, 1) := by decide +kernel
theorem dX0_litNext_43 : decode cX0_litNext 43 = .ok (.getfield 59, 3) := by decide +kernel
theorem dX0_litNext_46 : decode cX0_litNext 46 = .ok (.iconst (-1), 1) := by decide +kernel
theorem dX0_litNext_47 : decode cX0_litNext 47 = .ok (.ixor, 1) := by decide +kernel
theorem dX0_litNext_48 : decode cX0_litNext 48 = .ok (.iand, 1) := by decide +kernel
theorem dX0_litNext_49 : decode cX0_litNext 49 = .ok (.ior, 1) := by decide +kernel
theorem dX0_litNext_50 : decode cX0_litNext 50 = .ok (.istore_n 2, 1) := by decide +kernel
theorem dX0_litNext_51 : decode cX0_litNext 51 = .ok (.iinc 4 1, 3) := by decide +kernel
theorem dX0_litNext_54 : decode cX0_litNext 54 = .ok (.goto (-40), 3) := by decide +kernel
theorem dX0_litNext_57 : decode cX0_litNext 57 = .ok (.iload_n 2, 1) := by decide +kernel
theorem dX0_litNext_58 : decode cX0_litNext 58 = .ok (.ireturn, 1) := by decide +kernel
set_option maxRecDepth 20000 in
theorem ggX0_everLitFrom_X6_with : GoodIn wsX0_everLitFrom wsX6_with := goodIn_r _ [4] (by decide +kernel) (by decide +kernel)
set_option maxRecDepth 20000 in
theorem gX0_everLitFrom_X6_with_n44 : GoodIn wsX0_everLitFrom (wsX6_with) := ggX0_everLitFrom_X6_with
set_option maxRecDepth 20000 in
theorem ggX0_everLitFrom_X0_litNext : GoodIn wsX0_everLitFrom wsX0_litNext := goodIn_r _ [9, 10, 1, 11, 12, 3, 13, 14, 15, 16, 17, 18, 19, 20, 21, 22, 23, 24, 25, 26, 27, 28] (by decide +kernel) (by decide +kernel)
set_option maxRecDepth 20000 in
theorem gX0_everLitFrom_X0_litNext : GoodIn wsX0_everLitFrom (wsV RX0 66 RX0 yX0_litNext wsX0_litNext) := goodIn_app (goodIn_of _ (by decide +kernel)) ggX0_everLitFrom_X0_litNext
theorem dX0_everLitFrom_0 : decode cX0_everLitFrom 0 = .ok (.iconst 0, 1) := by decide +kernel
theorem dX0_everLitFrom_1 : decode cX0_everLitFrom 1 = .ok (.iload_n 1, 1) := by decide +kernel
theorem dX0_everLitFrom_2 : decode cX0_everLitFrom 2 = .ok (.invokestatic 44, 3) := by decide +kernel
theorem dX0_everLitFrom_5 : decode cX0_everLitFrom 5 = .ok (.istore_n 2, 1) := by decide +kernel
theorem dX0_everLitFrom_6 : decode cX0_everLitFrom 6 = .ok (.iconst 0, 1) := by decide +kernel
theorem dX0_everLitFrom_7 : decode cX0_everLitFrom 7 = .ok (.istore_n 3, 1) := by decide +kernel
theorem dX0_everLitFrom_8 : decode cX0_everLitFrom 8 = .ok (.iload_n 3, 1) := by decide +kernel
theorem dX0_everLitFrom_9 : decode cX0_everLitFrom 9 = .ok (.aload_n 0, 1) := by decide +kernel
theorem dX0_everLitFrom_10 : decode cX0_everLitFrom 10 = .ok (.getfield 32, 3) := by decide +kernel
theorem dX0_everLitFrom_13 : decode cX0_everLitFrom 13 = .ok (.if_icmp .ge 15, 3) := by decide +kernel
theorem dX0_everLitFrom_16 : decode cX0_everLitFrom 16 = .ok (.aload_n 0, 1) := by decide +kernel
theorem dX0_everLitFrom_17 : decode cX0_everLitFrom 17 = .ok (.iload_n 2, 1) := by decide +kernel
theorem dX0_everLitFrom_18 : decode cX0_everLitFrom 18 = .ok (.invokevirtual 66, 3) := by decide +kernel
theorem dX0_everLitFrom_21 : decode cX0_everLitFrom 21 = .ok (.istore_n 2, 1) := by decide +kernel
theorem dX0_everLitFrom_22 : decode cX0_everLitFrom 22 = .ok (.iinc 3 1, 3) := by decide +kernel
theorem dX0_everLitFrom_25 : decode cX0_everLitFrom 25 = .ok (.goto (-17), 3) := by decide +kernel
theorem dX0_everLitFrom_28 : decode cX0_everLitFrom 28 = .ok (.iload_n 2, 1) := by decide +kernel
theorem dX0_everLitFrom_29 : decode cX0_everLitFrom 29 = .ok (.ireturn, 1) := by decide +kernel
set_option maxRecDepth 20000 in
theorem ggX0_hoursOfFire_X6_with : GoodIn wsX0_hoursOfFire wsX6_with := goodIn_r _ [4] (by decide +kernel) (by decide +kernel)
set_option maxRecDepth 20000 in
theorem gX0_hoursOfFire_X6_with_n44 : GoodIn wsX0_hoursOfFire (wsX6_with) := ggX0_hoursOfFire_X6_with
set_option maxRecDepth 20000 in
theorem ggX0_hoursOfFire_X6_has : GoodIn wsX0_hoursOfFire wsX6_has := goodIn_r _ [6] (by decide +kernel) (by decide +kernel)
set_option maxRecDepth 20000 in
theorem gX0_hoursOfFire_X6_has_n62 : GoodIn wsX0_hoursOfFire (wsX6_has) := ggX0_hoursOfFire_X6_has
set_option maxRecDepth 20000 in
theorem ggX0_hoursOfFire_X0_litNext : GoodIn wsX0_hoursOfFire wsX0_litNext := goodIn_r _ [11, 12, 1, 13, 5, 3, 6, 14, 15, 16, 17, 18, 19, 20, 21, 22, 23, 24, 25, 26, 27, 28] (by decide +kernel) (by decide +kernel)
set_option maxRecDepth 20000 in
theorem gX0_hoursOfFire_X0_litNext : GoodIn wsX0_hoursOfFire (wsV RX0 66 RX0 yX0_litNext wsX0_litNext) := goodIn_app (goodIn_of _ (by decide +kernel)) ggX0_hoursOfFire_X0_litNext
theorem dX0_hoursOfFire_0 : decode cX0_hoursOfFire 0 = .ok (.iconst 0, 1) := by decide +kernel
theorem dX0_hoursOfFire_1 : decode cX0_hoursOfFire 1 = .ok (.iload_n 1, 1) := by decide +kernel
theorem dX0_hoursOfFire_2 : decode cX0_hoursOfFire 2 = .ok (.invokestatic 44, 3) := by decide +kernel
theorem dX0_hoursOfFire_5 : decode cX0_hoursOfFire 5 = .ok (.istore_n 3, 1) := by decide +kernel
theorem dX0_hoursOfFire_6 : decode cX0_hoursOfFire 6 = .ok (.iconst 0, 1) := by decide +kernel
theorem dX0_hoursOfFire_7 : decode cX0_hoursOfFire 7 = .ok (.istore 4, 2) := by decide +kernel
theorem dX0_hoursOfFire_9 : decode cX0_hoursOfFire 9 = .ok (.iload 4, 2) := by decide +kernel
theorem dX0_hoursOfFire_11 : decode cX0_hoursOfFire 11 = .ok (.aload_n 0, 1) := by decide +kernel
theorem dX0_hoursOfFire_12 : decode cX0_hoursOfFire 12 = .ok (.getfield 32, 3) := by decide +kernel
theorem dX0_hoursOfFire_15 : decode cX0_hoursOfFire 15 = .ok (.if_icmp .ge 26, 3) := by decide +kernel
theorem dX0_hoursOfFire_18 : decode cX0_hoursOfFire 18 = .ok (.iload_n 3, 1) := by decide +kernel
theorem dX0_hoursOfFire_19 : decode cX0_hoursOfFire 19 = .ok (.iload_n 2, 1) := by decide +kernel
theorem dX0_hoursOfFire_20 : decode cX0_hoursOfFire 20 = .ok (.invokestatic 62, 3) := by decide +kernel
theorem dX0_hoursOfFire_23 : decode cX0_hoursOfFire 23 = .ok (.ifCond .eq 6, 3) := by decide +kernel
theorem dX0_hoursOfFire_26 : decode cX0_hoursOfFire 26 = .ok (.iload 4, 2) := by decide +kernel
theorem dX0_hoursOfFire_28 : decode cX0_hoursOfFire 28 = .ok (.ireturn, 1) := by decide +kernel
theorem dX0_hoursOfFire_29 : decode cX0_hoursOfFire 29 = .ok (.aload_n 0, 1) := by decide +kernel
theorem dX0_hoursOfFire_30 : decode cX0_hoursOfFire 30 = .ok (.iload_n 3, 1) := by decide +kernel
theorem dX0_hoursOfFire_31 : decode cX0_hoursOfFire 31 = .ok (.invokevirtual 66, 3) := by decide +kernel
theorem dX0_hoursOfFire_34 : decode cX0_hoursOfFire 34 = .ok (.istore_n 3, 1) := by decide +kernel
theorem dX0_hoursOfFire_35 : decode cX0_hoursOfFire 35 = .ok (.iinc 4 1, 3) := by decide +kernel
theorem dX0_hoursOfFire_38 : decode cX0_hoursOfFire 38 = .ok (.goto (-29), 3) := by decide +kernel
theorem dX0_hoursOfFire_41 : decode cX0_hoursOfFire 41 = .ok (.iconst (-1), 1) := by decide +kernel
theorem dX0_hoursOfFire_42 : decode cX0_hoursOfFire 42 = .ok (.ireturn, 1) := by decide +kernel
set_option maxRecDepth 20000 in
theorem ggX1_init_X3_init : GoodIn wsX1_init wsX3_init := goodIn_r _ [20, 21, 2, 3, 22, 23, 24, 25, 26, 27, 28] (by decide +kernel) (by decide +kernel)
set_option maxRecDepth 20000 in
theorem gX1_init_X3_init : GoodIn wsX1_init (wsX3_init) := ggX1_init_X3_init
theorem dX1_init_0 : decode cX1_init 0 = .ok (.aload_n 0, 1) := by decide +kernel
theorem dX1_init_1 : decode cX1_init 1 = .ok (.invokespecial 3, 3) := by decide +kernel
theorem dX1_init_4 : decode cX1_init 4 = .ok (.aload_n 0, 1) := by decide +kernel
theorem dX1_init_5 : decode cX1_init 5 = .ok (.new 9, 3) := by decide +kernel
theorem dX1_init_8 : decode cX1_init 8 = .ok (.dup, 1) := by decide +kernel
theorem dX1_init_9 : decode cX1_init 9 = .ok (.bipush 60, 2) := by decide +kernel
theorem dX1_init_11 : decode cX1_init 11 = .ok (.invokespecial 11, 3) := by decide +kernel
theorem dX1_init_14 : decode cX1_init 14 = .ok (.putfield 14, 3) := by decide +kernel
theorem dX1_init_17 : decode cX1_init 17 = .ok (.aload_n 0, 1) := by decide +kernel
theorem dX1_init_18 : decode cX1_init 18 = .ok (.new 9, 3) := by decide +kernel
theorem dX1_init_21 : decode cX1_init 21 = .ok (.dup, 1) := by decide +kernel
theorem dX1_init_22 : decode cX1_init 22 = .ok (.bipush 60, 2) := by decide +kernel
theorem dX1_init_24 : decode cX1_init 24 = .ok (.invokespecial 11, 3) := by decide +kernel
theorem dX1_init_27 : decode cX1_init 27 = .ok (.putfield 20, 3) := by decide +kernel
theorem dX1_init_30 : decode cX1_init 30 = .ok (.aload_n 0, 1) := by decide +kernel
theorem dX1_init_31 : decode cX1_init 31 = .ok (.new 9, 3) := by decide +kernel
theorem dX1_init_34 : decode cX1_init 34 = .ok (.dup, 1) := by decide +kernel
theorem dX1_init_35 : decode cX1_init 35 = .ok (.bipush 60, 2) := by decide +kernel
theorem dX1_init_37 : decode cX1_init 37 = .ok (.invokespecial 11, 3) := by decide +kernel
theorem dX1_init_40 : decode cX1_init 40 = .ok (.putfield 23, 3) := by decide +kernel
theorem dX1_init_43 : decode cX1_init 43 = .ok (.aload_n 0, 1) := by decide +kernel
theorem dX1_init_44 : decode cX1_init 44 = .ok (.new 9, 3) := by decide +kernel
theorem dX1_init_47 : decode cX1_init 47 = .ok (.dup, 1) := by decide +kernel
theorem dX1_init_48 : decode cX1_init 48 = .ok (.bipush 60, 2) := by decide +kernel
theorem dX1_init_50 : decode cX1_init 50 = .ok (.invokespecial 11, 3) := by decide +kernel
theorem dX1_init_53 : decode cX1_init 53 = .ok (.putfield 26, 3) := by decide +kernel
theorem dX1_init_56 : decode cX1_init 56 = .ok (.aload_n 0, 1) := by decide +kernel
theorem dX1_init_57 : decode cX1_init 57 = .ok (.new 9, 3) := by decide +kernel
theorem dX1_init_60 : decode cX1_init 60 = .ok (.dup, 1) := by decide +kernel
theorem dX1_init_61 : decode cX1_init 61 = .ok (.bipush 60, 2) := by decide +kernel
theorem dX1_init_63 : decode cX1_init 63 = .ok (.invokespecial 11, 3) := by decide +kernel
theorem dX1_init_66 : decode cX1_init 66 = .ok (.putfield 29, 3) := by decide +kernel
theorem dX1_init_69 : decode cX1_init 69 = .ok (.aload_n 0, 1) := by decide +kernel
theorem dX1_init_70 : decode cX1_init 70 = .ok (.new 9, 3) := by decide +kernel
theorem dX1_init_73 : decode cX1_init 73 = .ok (.dup, 1) := by decide +kernel
theorem dX1_init_74 : decode cX1_init 74 = .ok (.bipush 60, 2) := by decide +kernel
theorem dX1_init_76 : decode cX1_init 76 = .ok (.invokespecial 11, 3) := by decide +kernel
theorem dX1_init_79 : decode cX1_init 79 = .ok (.putfield 32, 3) := by decide +kernel
theorem dX1_init_82 : decode cX1_init 82 = .ok (.aload_n 0, 1) := by decide +kernel
theorem dX1_init_83 : decode cX1_init 83 = .ok (.new 9, 3) := by decide +kernel
theorem dX1_init_86 : decode cX1_init 86 = .ok (.dup, 1) := by decide +kernel
theorem dX1_init_87 : decode cX1_init 87 = .ok (.bipush 60, 2) := by decide +kernel
theorem dX1_init_89 : decode cX1_init 89 = .ok (.invokespecial 11, 3) := by decide +kernel
theorem dX1_init_92 : decode cX1_init 92 = .ok (.putfield 35, 3) := by decide +kernel
theorem dX1_init_95 : decode cX1_init 95 = .ok (.aload_n 0, 1) := by decide +kernel
theorem dX1_init_96 : decode cX1_init 96 = .ok (.new 9, 3) := by decide +kernel
theorem dX1_init_99 : decode cX1_init 99 = .ok (.dup, 1) := by decide +kernel
theorem dX1_init_100 : decode cX1_init 100 = .ok (.bipush 60, 2) := by decide +kernel
theorem dX1_init_102 : decode cX1_init 102 = .ok (.invokespecial 11, 3) := by decide +kernel
theorem dX1_init_105 : decode cX1_init 105 = .ok (.putfield 38, 3) := by decide +kernel
theorem dX1_init_108 : decode cX1_init 108 = .ok (.aload_n 0, 1) := by decide +kernel
theorem dX1_init_109 : decode cX1_init 109 = .ok (.new 9, 3) := by decide +kernel
theorem dX1_init_112 : decode cX1_init 112 = .ok (.dup, 1) := by decide +kernel
theorem dX1_init_113 : decode cX1_init 113 = .ok (.bipush 60, 2) := by decide +kernel
theorem dX1_init_115 : decode cX1_init 115 = .ok (.invokespecial 11, 3) := by decide +kernel
theorem dX1_init_118 : decode cX1_init 118 = .ok (.putfield 41, 3) := by decide +kernel
theorem dX1_init_121 : decode cX1_init 121 = .ok (.aload_n 0, 1) := by decide +kernel
theorem dX1_init_122 : decode cX1_init 122 = .ok (.new 9, 3) := by decide +kernel
theorem dX1_init_125 : decode cX1_init 125 = .ok (.dup, 1) := by decide +kernel
theorem dX1_init_126 : decode cX1_init 126 = .ok (.bipush 60, 2) := by decide +kernel
theorem dX1_init_128 : decode cX1_init 128 = .ok (.invokespecial 11, 3) := by decide +kernel
theorem dX1_init_131 : decode cX1_init 131 = .ok (.putfield 44, 3) := by decide +kernel
theorem dX1_init_134 : decode cX1_init 134 = .ok (.aload_n 0, 1) := by decide +kernel
theorem dX1_init_135 : decode cX1_init 135 = .ok (.new 9, 3) := by decide +kernel
theorem dX1_init_138 : decode cX1_init 138 = .ok (.dup, 1) := by decide +kernel
theorem dX1_init_139 : decode cX1_init 139 = .ok (.bipush 60, 2) := by decide +kernel
theorem dX1_init_141 : decode cX1_init 141 = .ok (.invokespecial 11, 3) := by decide +kernel
theorem dX1_init_144 : decode cX1_init 144 = .ok (.putfield 47, 3) := by decide +kernel
theorem dX1_init_147 : decode cX1_init 147 = .ok (.return_, 1) := by decide +kernel
set_option maxRecDepth 20000 in
theorem ggX1_put_X3_set : GoodIn wsX1_put wsX3_set := goodIn_r _ [16, 17, 40] (by decide +kernel) (by decide +kernel)
set_option maxRecDepth 20000 in
theorem gX1_put_X3_set : GoodIn wsX1_put (wsV RX1 54 RX3 yX3_set wsX3_set) := goodIn_app (goodIn_of _ (by decide +kernel)) ggX1_put_X3_set
set_option maxRecDepth 20000 in
theorem ggX1_put_X1_putInOrder : GoodIn wsX1_put wsX1_putInOrder := goodIn_r _ [22, 4, 23, 24, 25, 26, 15, 27, 17, 12, 13, 14, 16, 28, 29, 30, 31, 32, 33, 34, 35, 36, 37, 38, 39, 40] (by decide +kernel) (by decide +kernel)
set_option maxRecDepth 20000 in
theorem gX1_put_X1_putInOrder : GoodIn wsX1_put (wsV RX1 58 RX1 yX1_putInOrder wsX1_putInOrder) := goodIn_app (goodIn_of _ (by decide +kernel)) ggX1_put_X1_putInOrder
theorem dX1_put_0 : decode cX1_put 0 = .ok (.aload_n 0, 1) := by decide +kernel
theorem dX1_put_1 : decode cX1_put 1 = .ok (.getfield 14, 3) := by decide +kernel
theorem dX1_put_4 : decode cX1_put 4 = .ok (.aload_n 0, 1) := by decide +kernel
theorem dX1_put_5 : decode cX1_put 5 = .ok (.getfield 50, 3) := by decide +kernel
theorem dX1_put_8 : decode cX1_put 8 = .ok (.iload_n 1, 1) := by decide +kernel
theorem dX1_put_9 : decode cX1_put 9 = .ok (.invokevirtual 54, 3) := by decide +kernel
theorem dX1_put_12 : decode cX1_put 12 = .ok (.aload_n 0, 1) := by decide +kernel
theorem dX1_put_13 : decode cX1_put 13 = .ok (.getfield 20, 3) := by decide +kernel
theorem dX1_put_16 : decode cX1_put 16 = .ok (.aload_n 0, 1) := by decide +kernel
theorem dX1_put_17 : decode cX1_put 17 = .ok (.getfield 50, 3) := by decide +kernel
theorem dX1_put_20 : decode cX1_put 20 = .ok (.iload_n 2, 1) := by decide +kernel
theorem dX1_put_21 : decode cX1_put 21 = .ok (.invokevirtual 54, 3) := by decide +kernel
theorem dX1_put_24 : decode cX1_put 24 = .ok (.aload_n 0, 1) := by decide +kernel
theorem dX1_put_25 : decode cX1_put 25 = .ok (.getfield 23, 3) := by decide +kernel
theorem dX1_put_28 : decode cX1_put 28 = .ok (.aload_n 0, 1) := by decide +kernel
theorem dX1_put_29 : decode cX1_put 29 = .ok (.getfield 50, 3) := by decide +kernel
theorem dX1_put_32 : decode cX1_put 32 = .ok (.iload_n 3, 1) := by decide +kernel
theorem dX1_put_33 : decode cX1_put 33 = .ok (.invokevirtual 54, 3) := by decide +kernel
theorem dX1_put_36 : decode cX1_put 36 = .ok (.aload_n 0, 1) := by decide +kernel
theorem dX1_put_37 : decode cX1_put 37 = .ok (.getfield 26, 3) := by decide +kernel
theorem dX1_put_40 : decode cX1_put 40 = .ok (.aload_n 0, 1) := by decide +kernel
theorem dX1_put_41 : decode cX1_put 41 = .ok (.getfield 50, 3) := by decide +kernel
theorem dX1_put_44 : decode cX1_put 44 = .ok (.iconst 0, 1) := by decide +kernel
theorem dX1_put_45 : decode cX1_put 45 = .ok (.invokevirtual 54, 3) := by decide +kernel
theorem dX1_put_48 : decode cX1_put 48 = .ok (.aload_n 0, 1) := by decide +kernel
theorem dX1_put_49 : decode cX1_put 49 = .ok (.getfield 29, 3) := by decide +kernel
theorem dX1_put_52 : decode cX1_put 52 = .ok (.aload_n 0, 1) := by decide +kernel
theorem dX1_put_53 : decode cX1_put 53 = .ok (.getfield 50, 3) := by decide +kernel
theorem dX1_put_56 : decode cX1_put 56 = .ok (.iload_n 1, 1) := by decide +kernel
theorem dX1_put_57 : decode cX1_put 57 = .ok (.invokevirtual 54, 3) := by decide +kernel
theorem dX1_put_60 : decode cX1_put 60 = .ok (.aload_n 0, 1) := by decide +kernel
theorem dX1_put_61 : decode cX1_put 61 = .ok (.getfield 32, 3) := by decide +kernel
theorem dX1_put_64 : decode cX1_put 64 = .ok (.aload_n 0, 1) := by decide +kernel
theorem dX1_put_65 : decode cX1_put 65 = .ok (.getfield 50, 3) := by decide +kernel
theorem dX1_put_68 : decode cX1_put 68 = .ok (.iconst (-1), 1) := by decide +kernel
theorem dX1_put_69 : decode cX1_put 69 = .ok (.invokevirtual 54, 3) := by decide +kernel
theorem dX1_put_72 : decode cX1_put 72 = .ok (.aload_n 0, 1) := by decide +kernel
theorem dX1_put_73 : decode cX1_put 73 = .ok (.getfield 35, 3) := by decide +kernel
theorem dX1_put_76 : decode cX1_put 76 = .ok (.aload_n 0, 1) := by decide +kernel
theorem dX1_put_77 : decode cX1_put 77 = .ok (.getfield 50, 3) := by decide +kernel
theorem dX1_put_80 : decode cX1_put 80 = .ok (.iconst 0, 1) := by decide +kernel
theorem dX1_put_81 : decode cX1_put 81 = .ok (.invokevirtual 54, 3) := by decide +kernel
theorem dX1_put_84 : decode cX1_put 84 = .ok (.aload_n 0, 1) := by decide +kernel
theorem dX1_put_85 : decode cX1_put 85 = .ok (.getfield 38, 3) := by decide +kernel
theorem dX1_put_88 : decode cX1_put 88 = .ok (.aload_n 0, 1) := by decide +kernel
theorem dX1_put_89 : decode cX1_put 89 = .ok (.getfield 50, 3) := by decide +kernel
theorem dX1_put_92 : decode cX1_put 92 = .ok (.iconst 0, 1) := by decide +kernel
theorem dX1_put_93 : decode cX1_put 93 = .ok (.invokevirtual 54, 3) := by decide +kernel
theorem dX1_put_96 : decode cX1_put 96 = .ok (.aload_n 0, 1) := by decide +kernel
theorem dX1_put_97 : decode cX1_put 97 = .ok (.getfield 41, 3) := by decide +kernel
theorem dX1_put_100 : decode cX1_put 100 = .ok (.aload_n 0, 1) := by decide +kernel
theorem dX1_put_101 : decode cX1_put 101 = .ok (.getfield 50, 3) := by decide +kernel
theorem dX1_put_104 : decode cX1_put 104 = .ok (.iload 4, 2) := by decide +kernel
theorem dX1_put_106 : decode cX1_put 106 = .ok (.invokevirtual 54, 3) := by decide +kernel
theorem dX1_put_109 : decode cX1_put 109 = .ok (.aload_n 0, 1) := by decide +kernel
theorem dX1_put_110 : decode cX1_put 110 = .ok (.getfield 44, 3) := by decide +kernel
theorem dX1_put_113 : decode cX1_put 113 = .ok (.aload_n 0, 1) := by decide +kernel
theorem dX1_put_114 : decode cX1_put 114 = .ok (.getfield 50, 3) := by decide +kernel
theorem dX1_put_117 : decode cX1_put 117 = .ok (.iconst (-1), 1) := by decide +kernel
theorem dX1_put_118 : decode cX1_put 118 = .ok (.invokevirtual 54, 3) := by decide +kernel
theorem dX1_put_121 : decode cX1_put 121 = .ok (.aload_n 0, 1) := by decide +kernel
theorem dX1_put_122 : decode cX1_put 122 = .ok (.aload_n 0, 1) := by decide +kernel
theorem dX1_put_123 : decode cX1_put 123 = .ok (.getfield 50, 3) := by decide +kernel
theorem dX1_put_126 : decode cX1_put 126 = .ok (.iload_n 3, 1) := by decide +kernel
theorem dX1_put_127 : decode cX1_put 127 = .ok (.invokevirtual 58, 3) := by decide +kernel
theorem dX1_put_130 : decode cX1_put 130 = .ok (.aload_n 0, 1) := by decide +kernel
theorem dX1_put_131 : decode cX1_put 131 = .ok (.dup, 1) := by decide +kernel
theorem dX1_put_132 : decode cX1_put 132 = .ok (.getfield 50, 3) := by decide +kernel
theorem dX1_put_135 : decode cX1_put 135 = .ok (.iconst 1, 1) := by decide +kernel
theorem dX1_put_136 : decode cX1_put 136 = .ok (.iadd, 1) := by decide +kernel
theorem dX1_put_137 : decode cX1_put 137 = .ok (.putfield 50, 3) := by decide +kernel
theorem dX1_put_140 : decode cX1_put 140 = .ok (.aload_n 0, 1) := by decide +kernel
theorem dX1_put_141 : decode cX1_put 141 = .ok (.getfield 50, 3) := by decide +kernel
theorem dX1_put_144 : decode cX1_put 144 = .ok (.iconst 1, 1) := by decide +kernel
theorem dX1_put_145 : decode cX1_put 145 = .ok (.isub, 1) := by decide +kernel
theorem dX1_put_146 : decode cX1_put 146 = .ok (.ireturn, 1) := by decide +kernel
set_option maxRecDepth 20000 in
theorem ggX1_putInOrder_X3_get : GoodIn wsX1_putInOrder wsX3_get := goodIn_r _ [7, 8, 25] (by decide +kernel) (by decide +kernel)
set_option maxRecDepth 20000 in
theorem gX1_putInOrder_X3_get : GoodIn wsX1_putInOrder (wsV RX1 61 RX3 yX3_get wsX3_get) := goodIn_app (goodIn_of _ (by decide +kernel)) ggX1_putInOrder_X3_get
set_option maxRecDepth 20000 in
theorem ggX1_putInOrder_X3_set : GoodIn wsX1_putInOrder wsX3_set := goodIn_r _ [12, 8, 25] (by decide +kernel) (by decide +kernel)
set_option maxRecDepth 20000 in
theorem gX1_putInOrder_X3_set : GoodIn wsX1_putInOrder (wsV RX1 54 RX3 yX3_set wsX3_set) := goodIn_app (goodIn_of _ (by decide +kernel)) ggX1_putInOrder_X3_set
theorem dX1_putInOrder_0 : decode cX1_putInOrder 0 = .ok (.iload_n 1, 1) := by decide +kernel
theorem dX1_putInOrder_1 : decode cX1_putInOrder 1 = .ok (.istore_n 3, 1) := by decide +kernel
theorem dX1_putInOrder_2 : decode cX1_putInOrder 2 = .ok (.iload_n 3, 1) := by decide +kernel
theorem dX1_putInOrder_3 : decode cX1_putInOrder 3 = .ok (.ifCond .le 48, 3) := by decide +kernel
theorem dX1_putInOrder_6 : decode cX1_putInOrder 6 = .ok (.aload_n 0, 1) := by decide +kernel
theorem dX1_putInOrder_7 : decode cX1_putInOrder 7 = .ok (.getfield 23, 3) := by decide +kernel
theorem dX1_putInOrder_10 : decode cX1_putInOrder 10 = .ok (.aload_n 0, 1) := by decide +kernel
theorem dX1_putInOrder_11 : decode cX1_putInOrder 11 = .ok (.getfield 47, 3) := by decide +kernel
theorem dX1_putInOrder_14 : decode cX1_putInOrder 14 = .ok (.iload_n 3, 1) := by decide +kernel
theorem dX1_putInOrder_15 : decode cX1_putInOrder 15 = .ok (.iconst 1, 1) := by decide +kernel
theorem dX1_putInOrder_16 : decode cX1_putInOrder 16 = .ok (.isub, 1) := by decide +kernel
theorem dX1_putInOrder_17 : decode cX1_putInOrder 17 = .ok (.invokevirtual 61, 3) := by decide +kernel
theorem dX1_putInOrder_20 : decode cX1_putInOrder 20 = .ok (.invokevirtual 61, 3) := by decide +kernel
theorem dX1_putInOrder_23 : decode cX1_putInOrder 23 = .ok (.iload_n 2, 1) := by decide +kernel
theorem dX1_putInOrder_24 : decode cX1_putInOrder 24 = .ok (.if_icmp .ge 27, 3) := by decide +kernel
theorem dX1_putInOrder_27 : decode cX1_putInOrder 27 = .ok (.aload_n 0, 1) := by decide +kernel
theorem dX1_putInOrder_28 : decode cX1_putInOrder 28 = .ok (.getfield 47, 3) := by decide +kernel
theorem dX1_putInOrder_31 : decode cX1_putInOrder 31 = .ok (.iload_n 3, 1) := by decide +kernel
theorem dX1_putInOrder_32 : decode cX1_putInOrder 32 = .ok (.aload_n 0, 1) := by decide +kernel
theorem dX1_putInOrder_33 : decode cX1_putInOrder 33 = .ok (.getfield 47, 3) := by decide +kernel
theorem dX1_putInOrder_36 : decode cX1_putInOrder 36 = .ok (.iload_n 3, 1) := by decide +kernel
theorem dX1_putInOrder_37 : decode cX1_putInOrder 37 = .ok (.iconst 1, 1) := by decide +kernel
theorem dX1_putInOrder_38 : decode cX1_putInOrder 38 = .ok (.isub, 1) := by decide +kernel
theorem dX1_putInOrder_39 : decode cX1_putInOrder 39 = .ok (.invokevirtual 61, 3) := by decide +kernel
theorem dX1_putInOrder_42 : decode cX1_putInOrder 42 = .ok (.invokevirtual 54, 3) := by decide +kernel
theorem dX1_putInOrder_45 : decode cX1_putInOrder 45 = .ok (.iinc 3 (-1), 3) := by decide +kernel
theorem dX1_putInOrder_48 : decode cX1_putInOrder 48 = .ok (.goto (-46), 3) := by decide +kernel
theorem dX1_putInOrder_51 : decode cX1_putInOrder 51 = .ok (.aload_n 0, 1) := by decide +kernel
theorem dX1_putInOrder_52 : decode cX1_putInOrder 52 = .ok (.getfield 47, 3) := by decide +kernel
theorem dX1_putInOrder_55 : decode cX1_putInOrder 55 = .ok (.iload_n 3, 1) := by decide +kernel
theorem dX1_putInOrder_56 : decode cX1_putInOrder 56 = .ok (.iload_n 1, 1) := by decide +kernel
theorem dX1_putInOrder_57 : decode cX1_putInOrder 57 = .ok (.invokevirtual 54, 3) := by decide +kernel
theorem dX1_putInOrder_60 : decode cX1_putInOrder 60 = .ok (.return_, 1) := by decide +kernel
set_option maxRecDepth 20000 in
theorem ggX1_isRecalled_X3_get : GoodIn wsX1_isRecalled wsX3_get := goodIn_r _ [6, 7, 20] (by decide +kernel) (by decide +kernel)
set_option maxRecDepth 20000 in
theorem gX1_isRecalled_X3_get : GoodIn wsX1_isRecalled (wsV RX1 61 RX3 yX3_get wsX3_get) := goodIn_app (goodIn_of _ (by decide +kernel)) ggX1_isRecalled_X3_get
theorem dX1_isRecalled_0 : decode cX1_isRecalled 0 = .ok (.aload_n 0, 1) := by decide +kernel
theorem dX1_isRecalled_1 : decode cX1_isRecalled 1 = .ok (.getfield 35, 3) := by decide +kernel
theorem dX1_isRecalled_4 : decode cX1_isRecalled 4 = .ok (.iload_n 1, 1) := by decide +kernel
theorem dX1_isRecalled_5 : decode cX1_isRecalled 5 = .ok (.invokevirtual 61, 3) := by decide +kernel
theorem dX1_isRecalled_8 : decode cX1_isRecalled 8 = .ok (.ifCond .eq 7, 3) := by decide +kernel
theorem dX1_isRecalled_11 : decode cX1_isRecalled 11 = .ok (.iconst 1, 1) := by decide +kernel
theorem dX1_isRecalled_12 : decode cX1_isRecalled 12 = .ok (.goto 4, 3) := by decide +kernel
theorem dX1_isRecalled_15 : decode cX1_isRecalled 15 = .ok (.iconst 0, 1) := by decide +kernel
theorem dX1_isRecalled_16 : decode cX1_isRecalled 16 = .ok (.ireturn, 1) := by decide +kernel
set_option maxRecDepth 20000 in
theorem ggX1_hasEnded_X3_get : GoodIn wsX1_hasEnded wsX3_get := goodIn_r _ [6, 7, 20] (by decide +kernel) (by decide +kernel)
set_option maxRecDepth 20000 in
theorem gX1_hasEnded_X3_get : GoodIn wsX1_hasEnded (wsV RX1 61 RX3 yX3_get wsX3_get) := goodIn_app (goodIn_of _ (by decide +kernel)) ggX1_hasEnded_X3_get
theorem dX1_hasEnded_0 : decode cX1_hasEnded 0 = .ok (.aload_n 0, 1) := by decide +kernel
theorem dX1_hasEnded_1 : decode cX1_hasEnded 1 = .ok (.getfield 44, 3) := by decide +kernel
theorem dX1_hasEnded_4 : decode cX1_hasEnded 4 = .ok (.iload_n 1, 1) := by decide +kernel
theorem dX1_hasEnded_5 : decode cX1_hasEnded 5 = .ok (.invokevirtual 61, 3) := by decide +kernel
theorem dX1_hasEnded_8 : decode cX1_hasEnded 8 = .ok (.iconst (-1), 1) := by decide +kernel
theorem dX1_hasEnded_9 : decode cX1_hasEnded 9 = .ok (.if_icmp .eq 7, 3) := by decide +kernel
theorem dX1_hasEnded_12 : decode cX1_hasEnded 12 = .ok (.iconst 1, 1) := by decide +kernel
theorem dX1_hasEnded_13 : decode cX1_hasEnded 13 = .ok (.goto 4, 3) := by decide +kernel
theorem dX1_hasEnded_16 : decode cX1_hasEnded 16 = .ok (.iconst 0, 1) := by decide +kernel
theorem dX1_hasEnded_17 : decode cX1_hasEnded 17 = .ok (.ireturn, 1) := by decide +kernel
set_option maxRecDepth 20000 in
theorem ggX1_isWith_X3_get : GoodIn wsX1_isWith wsX3_get := goodIn_r _ [7, 8, 21] (by decide +kernel) (by decide +kernel)
set_option maxRecDepth 20000 in
theorem gX1_isWith_X3_get : GoodIn wsX1_isWith (wsV RX1 61 RX3 yX3_get wsX3_get) := goodIn_app (goodIn_of _ (by decide +kernel)) ggX1_isWith_X3_get
theorem dX1_isWith_0 : decode cX1_isWith 0 = .ok (.aload_n 0, 1) := by decide +kernel
theorem dX1_isWith_1 : decode cX1_isWith 1 = .ok (.getfield 26, 3) := by decide +kernel
theorem dX1_isWith_4 : decode cX1_isWith 4 = .ok (.iload_n 1, 1) := by decide +kernel
theorem dX1_isWith_5 : decode cX1_isWith 5 = .ok (.invokevirtual 61, 3) := by decide +kernel
theorem dX1_isWith_8 : decode cX1_isWith 8 = .ok (.iconst 1, 1) := by decide +kernel
theorem dX1_isWith_9 : decode cX1_isWith 9 = .ok (.if_icmp .ne 19, 3) := by decide +kernel
theorem dX1_isWith_12 : decode cX1_isWith 12 = .ok (.aload_n 0, 1) := by decide +kernel
theorem dX1_isWith_13 : decode cX1_isWith 13 = .ok (.getfield 32, 3) := by decide +kernel
theorem dX1_isWith_16 : decode cX1_isWith 16 = .ok (.iload_n 1, 1) := by decide +kernel
theorem dX1_isWith_17 : decode cX1_isWith 17 = .ok (.invokevirtual 61, 3) := by decide +kernel
theorem dX1_isWith_20 : decode cX1_isWith 20 = .ok (.iload_n 2, 1) := by decide +kernel
theorem dX1_isWith_21 : decode cX1_isWith 21 = .ok (.if_icmp .ne 7, 3) := by decide +kernel
theorem dX1_isWith_24 : decode cX1_isWith 24 = .ok (.iconst 1, 1) := by decide +kernel
theorem dX1_isWith_25 : decode cX1_isWith 25 = .ok (.goto 4, 3) := by decide +kernel
theorem dX1_isWith_28 : decode cX1_isWith 28 = .ok (.iconst 0, 1) := by decide +kernel
theorem dX1_isWith_29 : decode cX1_isWith 29 = .ok (.ireturn, 1) := by decide +kernel
set_option maxRecDepth 20000 in
theorem ggX1_goal_X3_get : GoodIn wsX1_goal wsX3_get := goodIn_r _ [8, 9, 22] (by decide +kernel) (by decide +kernel)
set_option maxRecDepth 20000 in
theorem gX1_goal_X3_get : GoodIn wsX1_goal (wsV RX1 61 RX3 yX3_get wsX3_get) := goodIn_app (goodIn_of _ (by decide +kernel)) ggX1_goal_X3_get
theorem dX1_goal_0 : decode cX1_goal 0 = .ok (.aload_n 0, 1) := by decide +kernel
theorem dX1_goal_1 : decode cX1_goal 1 = .ok (.getfield 38, 3) := by decide +kernel
theorem dX1_goal_4 : decode cX1_goal 4 = .ok (.iload_n 1, 1) := by decide +kernel
theorem dX1_goal_5 : decode cX1_goal 5 = .ok (.invokevirtual 61, 3) := by decide +kernel
theorem dX1_goal_8 : decode cX1_goal 8 = .ok (.iconst 1, 1) := by decide +kernel
theorem dX1_goal_9 : decode cX1_goal 9 = .ok (.if_icmp .ne 14, 3) := by decide +kernel
theorem dX1_goal_12 : decode cX1_goal 12 = .ok (.aload_n 0, 1) := by decide +kernel
theorem dX1_goal_13 : decode cX1_goal 13 = .ok (.getfield 14, 3) := by decide +kernel
theorem dX1_goal_16 : decode cX1_goal 16 = .ok (.iload_n 1, 1) := by decide +kernel
theorem dX1_goal_17 : decode cX1_goal 17 = .ok (.invokevirtual 61, 3) := by decide +kernel
theorem dX1_goal_20 : decode cX1_goal 20 = .ok (.goto 11, 3) := by decide +kernel
theorem dX1_goal_23 : decode cX1_goal 23 = .ok (.aload_n 0, 1) := by decide +kernel
theorem dX1_goal_24 : decode cX1_goal 24 = .ok (.getfield 20, 3) := by decide +kernel
theorem dX1_goal_27 : decode cX1_goal 27 = .ok (.iload_n 1, 1) := by decide +kernel
theorem dX1_goal_28 : decode cX1_goal 28 = .ok (.invokevirtual 61, 3) := by decide +kernel
theorem dX1_goal_31 : decode cX1_goal 31 = .ok (.ireturn, 1) := by decide +kernel
set_option maxRecDepth 20000 in
theorem ggX1_areAnswers_X3_get : GoodIn wsX1_areAnswers wsX3_get := goodIn_r _ [7, 8, 21] (by decide +kernel) (by decide +kernel)
set_option maxRecDepth 20000 in
theorem gX1_areAnswers_X3_get : GoodIn wsX1_areAnswers (wsV RX1 61 RX3 yX3_get wsX3_get) := goodIn_app (goodIn_of _ (by decide +kernel)) ggX1_areAnswers_X3_get
theorem dX1_areAnswers_0 : decode cX1_areAnswers 0 = .ok (.aload_n 0, 1) := by decide +kernel
theorem dX1_areAnswers_1 : decode cX1_areAnswers 1 = .ok (.getfield 14, 3) := by decide +kernel
theorem dX1_areAnswers_4 : decode cX1_areAnswers 4 = .ok (.iload_n 1, 1) := by decide +kernel
theorem dX1_areAnswers_5 : decode cX1_areAnswers 5 = .ok (.invokevirtual 61, 3) := by decide +kernel
theorem dX1_areAnswers_8 : decode cX1_areAnswers 8 = .ok (.aload_n 0, 1) := by decide +kernel
theorem dX1_areAnswers_9 : decode cX1_areAnswers 9 = .ok (.getfield 20, 3) := by decide +kernel
theorem dX1_areAnswers_12 : decode cX1_areAnswers 12 = .ok (.iload_n 2, 1) := by decide +kernel
theorem dX1_areAnswers_13 : decode cX1_areAnswers 13 = .ok (.invokevirtual 61, 3) := by decide +kernel
theorem dX1_areAnswers_16 : decode cX1_areAnswers 16 = .ok (.if_icmp .ne 26, 3) := by decide +kernel
theorem dX1_areAnswers_19 : decode cX1_areAnswers 19 = .ok (.aload_n 0, 1) := by decide +kernel
theorem dX1_areAnswers_20 : decode cX1_areAnswers 20 = .ok (.getfield 14, 3) := by decide +kernel
theorem dX1_areAnswers_23 : decode cX1_areAnswers 23 = .ok (.iload_n 2, 1) := by decide +kernel
theorem dX1_areAnswers_24 : decode cX1_areAnswers 24 = .ok (.invokevirtual 61, 3) := by decide +kernel
theorem dX1_areAnswers_27 : decode cX1_areAnswers 27 = .ok (.aload_n 0, 1) := by decide +kernel
theorem dX1_areAnswers_28 : decode cX1_areAnswers 28 = .ok (.getfield 20, 3) := by decide +kernel
theorem dX1_areAnswers_31 : decode cX1_areAnswers 31 = .ok (.iload_n 1, 1) := by decide +kernel
theorem dX1_areAnswers_32 : decode cX1_areAnswers 32 = .ok (.invokevirtual 61, 3) := by decide +kernel
theorem dX1_areAnswers_35 : decode cX1_areAnswers 35 = .ok (.if_icmp .ne 7, 3) := by decide +kernel
theorem dX1_areAnswers_38 : decode cX1_areAnswers 38 = .ok (.iconst 1, 1) := by decide +kernel
theorem dX1_areAnswers_39 : decode cX1_areAnswers 39 = .ok (.goto 4, 3) := by decide +kernel
theorem dX1_areAnswers_42 : decode cX1_areAnswers 42 = .ok (.iconst 0, 1) := by decide +kernel
theorem dX1_areAnswers_43 : decode cX1_areAnswers 43 = .ok (.ireturn, 1) := by decide +kernel
set_option maxRecDepth 20000 in
theorem ggX1_handTo_X3_set : GoodIn wsX1_handTo wsX3_set := goodIn_r _ [8, 9, 22] (by decide +kernel) (by decide +kernel)
set_option maxRecDepth 20000 in
theorem gX1_handTo_X3_set : GoodIn wsX1_handTo (wsV RX1 54 RX3 yX3_set wsX3_set) := goodIn_app (goodIn_of _ (by decide +kernel)) ggX1_handTo_X3_set
theorem dX1_handTo_0 : decode cX1_handTo 0 = .ok (.aload_n 0, 1) := by decide +kernel
theorem dX1_handTo_1 : decode cX1_handTo 1 = .ok (.getfield 26, 3) := by decide +kernel
theorem dX1_handTo_4 : decode cX1_handTo 4 = .ok (.iload_n 1, 1) := by decide +kernel
theorem dX1_handTo_5 : decode cX1_handTo 5 = .ok (.iconst 1, 1) := by decide +kernel
theorem dX1_handTo_6 : decode cX1_handTo 6 = .ok (.invokevirtual 54, 3) := by decide +kernel
theorem dX1_handTo_9 : decode cX1_handTo 9 = .ok (.aload_n 0, 1) := by decide +kernel
theorem dX1_handTo_10 : decode cX1_handTo 10 = .ok (.getfield 29, 3) := by decide +kernel
theorem dX1_handTo_13 : decode cX1_handTo 13 = .ok (.iload_n 1, 1) := by decide +kernel
theorem dX1_handTo_14 : decode cX1_handTo 14 = .ok (.iconst (-1), 1) := by decide +kernel
theorem dX1_handTo_15 : decode cX1_handTo 15 = .ok (.invokevirtual 54, 3) := by decide +kernel
theorem dX1_handTo_18 : decode cX1_handTo 18 = .ok (.aload_n 0, 1) := by decide +kernel
theorem dX1_handTo_19 : decode cX1_handTo 19 = .ok (.getfield 32, 3) := by decide +kernel
theorem dX1_handTo_22 : decode cX1_handTo 22 = .ok (.iload_n 1, 1) := by decide +kernel
theorem dX1_handTo_23 : decode cX1_handTo 23 = .ok (.iload_n 2, 1) := by decide +kernel
theorem dX1_handTo_24 : decode cX1_handTo 24 = .ok (.invokevirtual 54, 3) := by decide +kernel
theorem dX1_handTo_27 : decode cX1_handTo 27 = .ok (.return_, 1) := by decide +kernel
set_option maxRecDepth 20000 in
theorem ggX1_layDown_X3_set : GoodIn wsX1_layDown wsX3_set := goodIn_r _ [10, 11, 35] (by decide +kernel) (by decide +kernel)
set_option maxRecDepth 20000 in
theorem gX1_layDown_X3_set : GoodIn wsX1_layDown (wsV RX1 54 RX3 yX3_set wsX3_set) := goodIn_app (goodIn_of _ (by decide +kernel)) ggX1_layDown_X3_set
set_option maxRecDepth 20000 in
theorem ggX1_layDown_X1_goal : GoodIn wsX1_layDown wsX1_goal := goodIn_r _ [16, 4, 17, 18, 19, 20, 21, 9, 22, 11, 23, 24, 25, 26, 27, 28, 29, 30, 31, 32, 33, 34, 35] (by decide +kernel) (by decide +kernel)
set_option maxRecDepth 20000 in
theorem gX1_layDown_X1_goal : GoodIn wsX1_layDown (wsV RX1 65 RX1 yX1_goal wsX1_goal) := goodIn_app (goodIn_of _ (by decide +kernel)) ggX1_layDown_X1_goal
set_option maxRecDepth 20000 in
theorem ggX1_layDown_X3_get : GoodIn wsX1_layDown wsX3_get := goodIn_r _ [22, 11, 35] (by decide +kernel) (by decide +kernel)
set_option maxRecDepth 20000 in
theorem gX1_layDown_X3_get : GoodIn wsX1_layDown (wsV RX1 61 RX3 yX3_get wsX3_get) := goodIn_app (goodIn_of _ (by decide +kernel)) ggX1_layDown_X3_get
theorem dX1_layDown_0 : decode cX1_layDown 0 = .ok (.aload_n 0, 1) := by decide +kernel
theorem dX1_layDown_1 : decode cX1_layDown 1 = .ok (.getfield 29, 3) := by decide +kernel
theorem dX1_layDown_4 : decode cX1_layDown 4 = .ok (.iload_n 1, 1) := by decide +kernel
theorem dX1_layDown_5 : decode cX1_layDown 5 = .ok (.iload_n 2, 1) := by decide +kernel
theorem dX1_layDown_6 : decode cX1_layDown 6 = .ok (.invokevirtual 54, 3) := by decide +kernel
theorem dX1_layDown_9 : decode cX1_layDown 9 = .ok (.aload_n 0, 1) := by decide +kernel
theorem dX1_layDown_10 : decode cX1_layDown 10 = .ok (.getfield 32, 3) := by decide +kernel
theorem dX1_layDown_13 : decode cX1_layDown 13 = .ok (.iload_n 1, 1) := by decide +kernel
theorem dX1_layDown_14 : decode cX1_layDown 14 = .ok (.iconst (-1), 1) := by decide +kernel
theorem dX1_layDown_15 : decode cX1_layDown 15 = .ok (.invokevirtual 54, 3) := by decide +kernel
theorem dX1_layDown_18 : decode cX1_layDown 18 = .ok (.iload_n 2, 1) := by decide +kernel
theorem dX1_layDown_19 : decode cX1_layDown 19 = .ok (.aload_n 0, 1) := by decide +kernel
theorem dX1_layDown_20 : decode cX1_layDown 20 = .ok (.iload_n 1, 1) := by decide +kernel
theorem dX1_layDown_21 : decode cX1_layDown 21 = .ok (.invokevirtual 65, 3) := by decide +kernel
theorem dX1_layDown_24 : decode cX1_layDown 24 = .ok (.if_icmp .ne 40, 3) := by decide +kernel
theorem dX1_layDown_27 : decode cX1_layDown 27 = .ok (.aload_n 0, 1) := by decide +kernel
theorem dX1_layDown_28 : decode cX1_layDown 28 = .ok (.getfield 26, 3) := by decide +kernel
theorem dX1_layDown_31 : decode cX1_layDown 31 = .ok (.iload_n 1, 1) := by decide +kernel
theorem dX1_layDown_32 : decode cX1_layDown 32 = .ok (.aload_n 0, 1) := by decide +kernel
theorem dX1_layDown_33 : decode cX1_layDown 33 = .ok (.getfield 38, 3) := by decide +kernel
theorem dX1_layDown_36 : decode cX1_layDown 36 = .ok (.iload_n 1, 1) := by decide +kernel
theorem dX1_layDown_37 : decode cX1_layDown 37 = .ok (.invokevirtual 61, 3) := by decide +kernel
theorem dX1_layDown_40 : decode cX1_layDown 40 = .ok (.iconst 1, 1) := by decide +kernel
theorem dX1_layDown_41 : decode cX1_layDown 41 = .ok (.if_icmp .ne 7, 3) := by decide +kernel
theorem dX1_layDown_44 : decode cX1_layDown 44 = .ok (.iconst 3, 1) := by decide +kernel
theorem dX1_layDown_45 : decode cX1_layDown 45 = .ok (.goto 4, 3) := by decide +kernel
theorem dX1_layDown_48 : decode cX1_layDown 48 = .ok (.iconst 2, 1) := by decide +kernel
theorem dX1_layDown_49 : decode cX1_layDown 49 = .ok (.invokevirtual 54, 3) := by decide +kernel
theorem dX1_layDown_52 : decode cX1_layDown 52 = .ok (.aload_n 0, 1) := by decide +kernel
theorem dX1_layDown_53 : decode cX1_layDown 53 = .ok (.getfield 44, 3) := by decide +kernel
theorem dX1_layDown_56 : decode cX1_layDown 56 = .ok (.iload_n 1, 1) := by decide +kernel
theorem dX1_layDown_57 : decode cX1_layDown 57 = .ok (.iload_n 3, 1) := by decide +kernel
theorem dX1_layDown_58 : decode cX1_layDown 58 = .ok (.invokevirtual 54, 3) := by decide +kernel
theorem dX1_layDown_61 : decode cX1_layDown 61 = .ok (.goto 12, 3) := by decide +kernel
theorem dX1_layDown_64 : decode cX1_layDown 64 = .ok (.aload_n 0, 1) := by decide +kernel
theorem dX1_layDown_65 : decode cX1_layDown 65 = .ok (.getfield 26, 3) := by decide +kernel
theorem dX1_layDown_68 : decode cX1_layDown 68 = .ok (.iload_n 1, 1) := by decide +kernel
theorem dX1_layDown_69 : decode cX1_layDown 69 = .ok (.iconst 0, 1) := by decide +kernel
theorem dX1_layDown_70 : decode cX1_layDown 70 = .ok (.invokevirtual 54, 3) := by decide +kernel
theorem dX1_layDown_73 : decode cX1_layDown 73 = .ok (.return_, 1) := by decide +kernel
set_option maxRecDepth 20000 in
theorem ggX1_turn_X3_set : GoodIn wsX1_turn wsX3_set := goodIn_r _ [7, 8, 39] (by decide +kernel) (by decide +kernel)
set_option maxRecDepth 20000 in
theorem gX1_turn_X3_set : GoodIn wsX1_turn (wsV RX1 54 RX3 yX3_set wsX3_set) := goodIn_app (goodIn_of _ (by decide +kernel)) ggX1_turn_X3_set
set_option maxRecDepth 20000 in
theorem ggX1_turn_X3_get : GoodIn wsX1_turn wsX3_get := goodIn_r _ [12, 8, 39] (by decide +kernel) (by decide +kernel)
set_option maxRecDepth 20000 in
theorem gX1_turn_X3_get : GoodIn wsX1_turn (wsV RX1 61 RX3 yX3_get wsX3_get) := goodIn_app (goodIn_of _ (by decide +kernel)) ggX1_turn_X3_get
set_option maxRecDepth 20000 in
theorem ggX1_turn_X1_layDown : GoodIn wsX1_turn wsX1_layDown := goodIn_r _ [17, 2, 18, 19, 1, 20, 3, 4, 5, 6, 7, 8, 21, 22, 23, 16, 24, 25, 26, 9, 10, 11, 12, 27, 28, 29, 30, 31, 32, 33, 34, 35, 36, 37, 38, 39] (by decide +kernel) (by decide +kernel)
set_option maxRecDepth 20000 in
theorem gX1_turn_X1_layDown : GoodIn wsX1_turn (wsV RX1 68 RX1 yX1_layDown wsX1_layDown) := goodIn_app (goodIn_of _ (by decide +kernel)) ggX1_turn_X1_layDown
theorem dX1_turn_0 : decode cX1_turn 0 = .ok (.aload_n 0, 1) := by decide +kernel
theorem dX1_turn_1 : decode cX1_turn 1 = .ok (.getfield 38, 3) := by decide +kernel
theorem dX1_turn_4 : decode cX1_turn 4 = .ok (.iload_n 1, 1) := by decide +kernel
theorem dX1_turn_5 : decode cX1_turn 5 = .ok (.iconst 1, 1) := by decide +kernel
theorem dX1_turn_6 : decode cX1_turn 6 = .ok (.invokevirtual 54, 3) := by decide +kernel
theorem dX1_turn_9 : decode cX1_turn 9 = .ok (.aload_n 0, 1) := by decide +kernel
theorem dX1_turn_10 : decode cX1_turn 10 = .ok (.iload_n 1, 1) := by decide +kernel
theorem dX1_turn_11 : decode cX1_turn 11 = .ok (.aload_n 0, 1) := by decide +kernel
theorem dX1_turn_12 : decode cX1_turn 12 = .ok (.getfield 29, 3) := by decide +kernel
theorem dX1_turn_15 : decode cX1_turn 15 = .ok (.iload_n 1, 1) := by decide +kernel
theorem dX1_turn_16 : decode cX1_turn 16 = .ok (.invokevirtual 61, 3) := by decide +kernel
theorem dX1_turn_19 : decode cX1_turn 19 = .ok (.iload_n 2, 1) := by decide +kernel
theorem dX1_turn_20 : decode cX1_turn 20 = .ok (.invokevirtual 68, 3) := by decide +kernel
theorem dX1_turn_23 : decode cX1_turn 23 = .ok (.return_, 1) := by decide +kernel
set_option maxRecDepth 20000 in
theorem ggX1_waitingAt_X3_get : GoodIn wsX1_waitingAt wsX3_get := goodIn_r _ [8, 9, 22] (by decide +kernel) (by decide +kernel)
set_option maxRecDepth 20000 in
theorem gX1_waitingAt_X3_get : GoodIn wsX1_waitingAt (wsV RX1 61 RX3 yX3_get wsX3_get) := goodIn_app (goodIn_of _ (by decide +kernel)) ggX1_waitingAt_X3_get
theorem dX1_waitingAt_0 : decode cX1_waitingAt 0 = .ok (.iconst 0, 1) := by decide +kernel
theorem dX1_waitingAt_1 : decode cX1_waitingAt 1 = .ok (.istore_n 2, 1) := by decide +kernel
theorem dX1_waitingAt_2 : decode cX1_waitingAt 2 = .ok (.iconst 0, 1) := by decide +kernel
theorem dX1_waitingAt_3 : decode cX1_waitingAt 3 = .ok (.istore_n 3, 1) := by decide +kernel
theorem dX1_waitingAt_4 : decode cX1_waitingAt 4 = .ok (.iload_n 3, 1) := by decide +kernel
theorem dX1_waitingAt_5 : decode cX1_waitingAt 5 = .ok (.aload_n 0, 1) := by decide +kernel
theorem dX1_waitingAt_6 : decode cX1_waitingAt 6 = .ok (.getfield 50, 3) := by decide +kernel
theorem dX1_waitingAt_9 : decode cX1_waitingAt 9 = .ok (.if_icmp .ge 35, 3) := by decide +kernel
theorem dX1_waitingAt_12 : decode cX1_waitingAt 12 = .ok (.aload_n 0, 1) := by decide +kernel
theorem dX1_waitingAt_13 : decode cX1_waitingAt 13 = .ok (.getfield 26, 3) := by decide +kernel
theorem dX1_waitingAt_16 : decode cX1_waitingAt 16 = .ok (.iload_n 3, 1) := by decide +kernel
theorem dX1_waitingAt_17 : decode cX1_waitingAt 17 = .ok (.invokevirtual 61, 3) := by decide +kernel
theorem dX1_waitingAt_20 : decode cX1_waitingAt 20 = .ok (.ifCond .ne 18, 3) := by decide +kernel
theorem dX1_waitingAt_23 : decode cX1_waitingAt 23 = .ok (.aload_n 0, 1) := by decide +kernel
theorem dX1_waitingAt_24 : decode cX1_waitingAt 24 = .ok (.getfield 29, 3) := by decide +kernel
theorem dX1_waitingAt_27 : decode cX1_waitingAt 27 = .ok (.iload_n 3, 1) := by decide +kernel
theorem dX1_waitingAt_28 : decode cX1_waitingAt 28 = .ok (.invokevirtual 61, 3) := by decide +kernel
theorem dX1_waitingAt_31 : decode cX1_waitingAt 31 = .ok (.iload_n 1, 1) := by decide +kernel
theorem dX1_waitingAt_32 : decode cX1_waitingAt 32 = .ok (.if_icmp .ne 6, 3) := by decide +kernel
theorem dX1_waitingAt_35 : decode cX1_waitingAt 35 = .ok (.iinc 2 1, 3) := by decide +kernel
theorem dX1_waitingAt_38 : decode cX1_waitingAt 38 = .ok (.iinc 3 1, 3) := by decide +kernel
theorem dX1_waitingAt_41 : decode cX1_waitingAt 41 = .ok (.goto (-37), 3) := by decide +kernel
theorem dX1_waitingAt_44 : decode cX1_waitingAt 44 = .ok (.iload_n 2, 1) := by decide +kernel
theorem dX1_waitingAt_45 : decode cX1_waitingAt 45 = .ok (.ireturn, 1) := by decide +kernel
set_option maxRecDepth 20000 in
theorem ggX1_carriedBy_X1_isWith : GoodIn wsX1_carriedBy wsX1_isWith := goodIn_r _ [6, 7, 8, 9, 10, 11, 12, 13, 14, 15, 16, 17, 18, 19, 20, 21, 22, 23, 24, 25, 26, 27] (by decide +kernel) (by decide +kernel)
set_option maxRecDepth 20000 in
theorem gX1_carriedBy_X1_isWith : GoodIn wsX1_carriedBy (wsV RX1 72 RX1 yX1_isWith wsX1_isWith) := goodIn_app (goodIn_of _ (by decide +kernel)) ggX1_carriedBy_X1_isWith
theorem dX1_carriedBy_0 : decode cX1_carriedBy 0 = .ok (.iconst 0, 1) := by decide +kernel
theorem dX1_carriedBy_1 : decode cX1_carriedBy 1 = .ok (.istore_n 2, 1) := by decide +kernel
theorem dX1_carriedBy_2 : decode cX1_carriedBy 2 = .ok (.iconst 0, 1) := by decide +kernel
theorem dX1_carriedBy_3 : decode cX1_carriedBy 3 = .ok (.istore_n 3, 1) := by decide +kernel
theorem dX1_carriedBy_4 : decode cX1_carriedBy 4 = .ok (.iload_n 3, 1) := by decide +kernel
theorem dX1_carriedBy_5 : decode cX1_carriedBy 5 = .ok (.aload_n 0, 1) := by decide +kernel
theorem dX1_carriedBy_6 : decode cX1_carriedBy 6 = .ok (.getfield 50, 3) := by decide +kernel
theorem dX1_carriedBy_9 : decode cX1_carriedBy 9 = .ok (.if_icmp .ge 21, 3) := by decide +kernel
theorem dX1_carriedBy_12 : decode cX1_carriedBy 12 = .ok (.aload_n 0, 1) := by decide +kernel
theorem dX1_carriedBy_13 : decode cX1_carriedBy 13 = .ok (.iload_n 3, 1) := by decide +kernel
theorem dX1_carriedBy_14 : decode cX1_carriedBy 14 = .ok (.iload_n 1, 1) := by decide +kernel
theorem dX1_carriedBy_15 : decode cX1_carriedBy 15 = .ok (.invokevirtual 72, 3) := by decide +kernel
theorem dX1_carriedBy_18 : decode cX1_carriedBy 18 = .ok (.ifCond .eq 6, 3) := by decide +kernel
theorem dX1_carriedBy_21 : decode cX1_carriedBy 21 = .ok (.iinc 2 1, 3) := by decide +kernel
theorem dX1_carriedBy_24 : decode cX1_carriedBy 24 = .ok (.iinc 3 1, 3) := by decide +kernel
theorem dX1_carriedBy_27 : decode cX1_carriedBy 27 = .ok (.goto (-23), 3) := by decide +kernel
theorem dX1_carriedBy_30 : decode cX1_carriedBy 30 = .ok (.iload_n 2, 1) := by decide +kernel
theorem dX1_carriedBy_31 : decode cX1_carriedBy 31 = .ok (.ireturn, 1) := by decide +kernel
set_option maxRecDepth 20000 in
theorem ggX1_inState_X3_get : GoodIn wsX1_inState wsX3_get := goodIn_r _ [7, 8, 21] (by decide +kernel) (by decide +kernel)
set_option maxRecDepth 20000 in
theorem gX1_inState_X3_get : GoodIn wsX1_inState (wsV RX1 61 RX3 yX3_get wsX3_get) := goodIn_app (goodIn_of _ (by decide +kernel)) ggX1_inState_X3_get
theorem dX1_inState_0 : decode cX1_inState 0 = .ok (.iconst 0, 1) := by decide +kernel
theorem dX1_inState_1 : decode cX1_inState 1 = .ok (.istore_n 2, 1) := by decide +kernel
theorem dX1_inState_2 : decode cX1_inState 2 = .ok (.iconst 0, 1) := by decide +kernel
theorem dX1_inState_3 : decode cX1_inState 3 = .ok (.istore_n 3, 1) := by decide +kernel
theorem dX1_inState_4 : decode cX1_inState 4 = .ok (.iload_n 3, 1) := by decide +kernel
theorem dX1_inState_5 : decode cX1_inState 5 = .ok (.aload_n 0, 1) := by decide +kernel
theorem dX1_inState_6 : decode cX1_inState 6 = .ok (.getfield 50, 3) := by decide +kernel
theorem dX1_inState_9 : decode cX1_inState 9 = .ok (.if_icmp .ge 24, 3) := by decide +kernel
theorem dX1_inState_12 : decode cX1_inState 12 = .ok (.aload_n 0, 1) := by decide +kernel
theorem dX1_inState_13 : decode cX1_inState 13 = .ok (.getfield 26, 3) := by decide +kernel
theorem dX1_inState_16 : decode cX1_inState 16 = .ok (.iload_n 3, 1) := by decide +kernel
theorem dX1_inState_17 : decode cX1_inState 17 = .ok (.invokevirtual 61, 3) := by decide +kernel
theorem dX1_inState_20 : decode cX1_inState 20 = .ok (.iload_n 1, 1) := by decide +kernel
theorem dX1_inState_21 : decode cX1_inState 21 = .ok (.if_icmp .ne 6, 3) := by decide +kernel
theorem dX1_inState_24 : decode cX1_inState 24 = .ok (.iinc 2 1, 3) := by decide +kernel
theorem dX1_inState_27 : decode cX1_inState 27 = .ok (.iinc 3 1, 3) := by decide +kernel
theorem dX1_inState_30 : decode cX1_inState 30 = .ok (.goto (-26), 3) := by decide +kernel
theorem dX1_inState_33 : decode cX1_inState 33 = .ok (.iload_n 2, 1) := by decide +kernel
theorem dX1_inState_34 : decode cX1_inState 34 = .ok (.ireturn, 1) := by decide +kernel
set_option maxRecDepth 20000 in
theorem ggX1_copyFrom_X3_copyFrom : GoodIn wsX1_copyFrom wsX3_copyFrom := goodIn_r _ [17, 18, 19, 20, 21, 22, 23, 24, 25, 26, 39] (by decide +kernel) (by decide +kernel)
set_option maxRecDepth 20000 in
theorem gX1_copyFrom_X3_copyFrom : GoodIn wsX1_copyFrom (wsV RX1 76 RX3 yX3_copyFrom wsX3_copyFrom) := goodIn_app (goodIn_of _ (by decide +kernel)) ggX1_copyFrom_X3_copyFrom
theorem dX1_copyFrom_0 : decode cX1_copyFrom 0 = .ok (.aload_n 0, 1) := by decide +kernel
theorem dX1_copyFrom_1 : decode cX1_copyFrom 1 = .ok (.aload_n 1, 1) := by decide +kernel
theorem dX1_copyFrom_2 : decode cX1_copyFrom 2 = .ok (.getfield 50, 3) := by decide +kernel
theorem dX1_copyFrom_5 : decode cX1_copyFrom 5 = .ok (.putfield 50, 3) := by decide +kernel
theorem dX1_copyFrom_8 : decode cX1_copyFrom 8 = .ok (.aload_n 0, 1) := by decide +kernel
theorem dX1_copyFrom_9 : decode cX1_copyFrom 9 = .ok (.getfield 14, 3) := by decide +kernel
theorem dX1_copyFrom_12 : decode cX1_copyFrom 12 = .ok (.aload_n 1, 1) := by decide +kernel
theorem dX1_copyFrom_13 : decode cX1_copyFrom 13 = .ok (.getfield 14, 3) := by decide +kernel
theorem dX1_copyFrom_16 : decode cX1_copyFrom 16 = .ok (.invokevirtual 76, 3) := by decide +kernel
theorem dX1_copyFrom_19 : decode cX1_copyFrom 19 = .ok (.aload_n 0, 1) := by decide +kernel
theorem dX1_copyFrom_20 : decode cX1_copyFrom 20 = .ok (.getfield 20, 3) := by decide +kernel
theorem dX1_copyFrom_23 : decode cX1_copyFrom 23 = .ok (.aload_n 1, 1) := by decide +kernel
theorem dX1_copyFrom_24 : decode cX1_copyFrom 24 = .ok (.getfield 20, 3) := by decide +kernel
theorem dX1_copyFrom_27 : decode cX1_copyFrom 27 = .ok (.invokevirtual 76, 3) := by decide +kernel
theorem dX1_copyFrom_30 : decode cX1_copyFrom 30 = .ok (.aload_n 0, 1) := by decide +kernel
theorem dX1_copyFrom_31 : decode cX1_copyFrom 31 = .ok (.getfield 23, 3) := by decide +kernel
theorem dX1_copyFrom_34 : decode cX1_copyFrom 34 = .ok (.aload_n 1, 1) := by decide +kernel
theorem dX1_copyFrom_35 : decode cX1_copyFrom 35 = .ok (.getfield 23, 3) := by decide +kernel
theorem dX1_copyFrom_38 : decode cX1_copyFrom 38 = .ok (.invokevirtual 76, 3) := by decide +kernel
theorem dX1_copyFrom_41 : decode cX1_copyFrom 41 = .ok (.aload_n 0, 1) := by decide +kernel
theorem dX1_copyFrom_42 : decode cX1_copyFrom 42 = .ok (.getfield 26, 3) := by decide +kernel
theorem dX1_copyFrom_45 : decode cX1_copyFrom 45 = .ok (.aload_n 1, 1) := by decide +kernel
theorem dX1_copyFrom_46 : decode cX1_copyFrom 46 = .ok (.getfield 26, 3) := by decide +kernel
theorem dX1_copyFrom_49 : decode cX1_copyFrom 49 = .ok (.invokevirtual 76, 3) := by decide +kernel
theorem dX1_copyFrom_52 : decode cX1_copyFrom 52 = .ok (.aload_n 0, 1) := by decide +kernel
theorem dX1_copyFrom_53 : decode cX1_copyFrom 53 = .ok (.getfield 29, 3) := by decide +kernel
theorem dX1_copyFrom_56 : decode cX1_copyFrom 56 = .ok (.aload_n 1, 1) := by decide +kernel
theorem dX1_copyFrom_57 : decode cX1_copyFrom 57 = .ok (.getfield 29, 3) := by decide +kernel
theorem dX1_copyFrom_60 : decode cX1_copyFrom 60 = .ok (.invokevirtual 76, 3) := by decide +kernel
theorem dX1_copyFrom_63 : decode cX1_copyFrom 63 = .ok (.aload_n 0, 1) := by decide +kernel
theorem dX1_copyFrom_64 : decode cX1_copyFrom 64 = .ok (.getfield 32, 3) := by decide +kernel
theorem dX1_copyFrom_67 : decode cX1_copyFrom 67 = .ok (.aload_n 1, 1) := by decide +kernel
theorem dX1_copyFrom_68 : decode cX1_copyFrom 68 = .ok (.getfield 32, 3) := by decide +kernel
theorem dX1_copyFrom_71 : decode cX1_copyFrom 71 = .ok (.invokevirtual 76, 3) := by decide +kernel
theorem dX1_copyFrom_74 : decode cX1_copyFrom 74 = .ok (.aload_n 0, 1) := by decide +kernel
theorem dX1_copyFrom_75 : decode cX1_copyFrom 75 = .ok (.getfield 35, 3) := by decide +kernel
theorem dX1_copyFrom_78 : decode cX1_copyFrom 78 = .ok (.aload_n 1, 1) := by decide +kernel
theorem dX1_copyFrom_79 : decode cX1_copyFrom 79 = .ok (.getfield 35, 3) := by decide +kernel
theorem dX1_copyFrom_82 : decode cX1_copyFrom 82 = .ok (.invokevirtual 76, 3) := by decide +kernel
theorem dX1_copyFrom_85 : decode cX1_copyFrom 85 = .ok (.aload_n 0, 1) := by decide +kernel
theorem dX1_copyFrom_86 : decode cX1_copyFrom 86 = .ok (.getfield 38, 3) := by decide +kernel
theorem dX1_copyFrom_89 : decode cX1_copyFrom 89 = .ok (.aload_n 1, 1) := by decide +kernel
theorem dX1_copyFrom_90 : decode cX1_copyFrom 90 = .ok (.getfield 38, 3) := by decide +kernel
theorem dX1_copyFrom_93 : decode cX1_copyFrom 93 = .ok (.invokevirtual 76, 3) := by decide +kernel
theorem dX1_copyFrom_96 : decode cX1_copyFrom 96 = .ok (.aload_n 0, 1) := by decide +kernel
theorem dX1_copyFrom_97 : decode cX1_copyFrom 97 = .ok (.getfield 41, 3) := by decide +kernel
theorem dX1_copyFrom_100 : decode cX1_copyFrom 100 = .ok (.aload_n 1, 1) := by decide +kernel
theorem dX1_copyFrom_101 : decode cX1_copyFrom 101 = .ok (.getfield 41, 3) := by decide +kernel
theorem dX1_copyFrom_104 : decode cX1_copyFrom 104 = .ok (.invokevirtual 76, 3) := by decide +kernel
theorem dX1_copyFrom_107 : decode cX1_copyFrom 107 = .ok (.aload_n 0, 1) := by decide +kernel
theorem dX1_copyFrom_108 : decode cX1_copyFrom 108 = .ok (.getfield 44, 3) := by decide +kernel
theorem dX1_copyFrom_111 : decode cX1_copyFrom 111 = .ok (.aload_n 1, 1) := by decide +kernel
theorem dX1_copyFrom_112 : decode cX1_copyFrom 112 = .ok (.getfield 44, 3) := by decide +kernel
theorem dX1_copyFrom_115 : decode cX1_copyFrom 115 = .ok (.invokevirtual 76, 3) := by decide +kernel
theorem dX1_copyFrom_118 : decode cX1_copyFrom 118 = .ok (.aload_n 0, 1) := by decide +kernel
theorem dX1_copyFrom_119 : decode cX1_copyFrom 119 = .ok (.getfield 47, 3) := by decide +kernel
theorem dX1_copyFrom_122 : decode cX1_copyFrom 122 = .ok (.aload_n 1, 1) := by decide +kernel
theorem dX1_copyFrom_123 : decode cX1_copyFrom 123 = .ok (.getfield 47, 3) := by decide +kernel
theorem dX1_copyFrom_126 : decode cX1_copyFrom 126 = .ok (.invokevirtual 76, 3) := by decide +kernel
theorem dX1_copyFrom_129 : decode cX1_copyFrom 129 = .ok (.return_, 1) := by decide +kernel
set_option maxRecDepth 20000 in
theorem ggX2_init_X3_init : GoodIn wsX2_init wsX3_init := goodIn_r _ [14, 15, 2, 3, 16, 17, 18, 19, 20, 21, 22] (by decide +kernel) (by decide +kernel)
set_option maxRecDepth 20000 in
theorem gX2_init_X3_init : GoodIn wsX2_init (wsX3_init) := ggX2_init_X3_init
theorem dX2_init_0 : decode cX2_init 0 = .ok (.aload_n 0, 1) := by decide +kernel
theorem dX2_init_1 : decode cX2_init 1 = .ok (.invokespecial 3, 3) := by decide +kernel
theorem dX2_init_4 : decode cX2_init 4 = .ok (.aload_n 0, 1) := by decide +kernel
theorem dX2_init_5 : decode cX2_init 5 = .ok (.new 9, 3) := by decide +kernel
theorem dX2_init_8 : decode cX2_init 8 = .ok (.dup, 1) := by decide +kernel
theorem dX2_init_9 : decode cX2_init 9 = .ok (.bipush 12, 2) := by decide +kernel
theorem dX2_init_11 : decode cX2_init 11 = .ok (.invokespecial 11, 3) := by decide +kernel
theorem dX2_init_14 : decode cX2_init 14 = .ok (.putfield 14, 3) := by decide +kernel
theorem dX2_init_17 : decode cX2_init 17 = .ok (.aload_n 0, 1) := by decide +kernel
theorem dX2_init_18 : decode cX2_init 18 = .ok (.new 9, 3) := by decide +kernel
theorem dX2_init_21 : decode cX2_init 21 = .ok (.dup, 1) := by decide +kernel
theorem dX2_init_22 : decode cX2_init 22 = .ok (.bipush 12, 2) := by decide +kernel
theorem dX2_init_24 : decode cX2_init 24 = .ok (.invokespecial 11, 3) := by decide +kernel
theorem dX2_init_27 : decode cX2_init 27 = .ok (.putfield 20, 3) := by decide +kernel
theorem dX2_init_30 : decode cX2_init 30 = .ok (.aload_n 0, 1) := by decide +kernel
theorem dX2_init_31 : decode cX2_init 31 = .ok (.new 9, 3) := by decide +kernel
theorem dX2_init_34 : decode cX2_init 34 = .ok (.dup, 1) := by decide +kernel
theorem dX2_init_35 : decode cX2_init 35 = .ok (.bipush 12, 2) := by decide +kernel
theorem dX2_init_37 : decode cX2_init 37 = .ok (.invokespecial 11, 3) := by decide +kernel
theorem dX2_init_40 : decode cX2_init 40 = .ok (.putfield 23, 3) := by decide +kernel
theorem dX2_init_43 : decode cX2_init 43 = .ok (.aload_n 0, 1) := by decide +kernel
theorem dX2_init_44 : decode cX2_init 44 = .ok (.new 9, 3) := by decide +kernel
theorem dX2_init_47 : decode cX2_init 47 = .ok (.dup, 1) := by decide +kernel
theorem dX2_init_48 : decode cX2_init 48 = .ok (.bipush 12, 2) := by decide +kernel
theorem dX2_init_50 : decode cX2_init 50 = .ok (.invokespecial 11, 3) := by decide +kernel
theorem dX2_init_53 : decode cX2_init 53 = .ok (.putfield 26, 3) := by decide +kernel
theorem dX2_init_56 : decode cX2_init 56 = .ok (.aload_n 0, 1) := by decide +kernel
theorem dX2_init_57 : decode cX2_init 57 = .ok (.new 9, 3) := by decide +kernel
theorem dX2_init_60 : decode cX2_init 60 = .ok (.dup, 1) := by decide +kernel
theorem dX2_init_61 : decode cX2_init 61 = .ok (.bipush 12, 2) := by decide +kernel
theorem dX2_init_63 : decode cX2_init 63 = .ok (.invokespecial 11, 3) := by decide +kernel
theorem dX2_init_66 : decode cX2_init 66 = .ok (.putfield 29, 3) := by decide +kernel
theorem dX2_init_69 : decode cX2_init 69 = .ok (.return_, 1) := by decide +kernel
set_option maxRecDepth 20000 in
theorem ggX2_put_X3_set : GoodIn wsX2_put wsX3_set := goodIn_r _ [11, 12, 19] (by decide +kernel) (by decide +kernel)
set_option maxRecDepth 20000 in
theorem gX2_put_X3_set : GoodIn wsX2_put (wsV RX2 36 RX3 yX3_set wsX3_set) := goodIn_app (goodIn_of _ (by decide +kernel)) ggX2_put_X3_set
theorem dX2_put_0 : decode cX2_put 0 = .ok (.aload_n 0, 1) := by decide +kernel
theorem dX2_put_1 : decode cX2_put 1 = .ok (.getfield 14, 3) := by decide +kernel
theorem dX2_put_4 : decode cX2_put 4 = .ok (.aload_n 0, 1) := by decide +kernel
theorem dX2_put_5 : decode cX2_put 5 = .ok (.getfield 32, 3) := by decide +kernel
theorem dX2_put_8 : decode cX2_put 8 = .ok (.iload_n 1, 1) := by decide +kernel
theorem dX2_put_9 : decode cX2_put 9 = .ok (.invokevirtual 36, 3) := by decide +kernel
theorem dX2_put_12 : decode cX2_put 12 = .ok (.aload_n 0, 1) := by decide +kernel
theorem dX2_put_13 : decode cX2_put 13 = .ok (.getfield 20, 3) := by decide +kernel
theorem dX2_put_16 : decode cX2_put 16 = .ok (.aload_n 0, 1) := by decide +kernel
theorem dX2_put_17 : decode cX2_put 17 = .ok (.getfield 32, 3) := by decide +kernel
theorem dX2_put_20 : decode cX2_put 20 = .ok (.iload_n 2, 1) := by decide +kernel
theorem dX2_put_21 : decode cX2_put 21 = .ok (.invokevirtual 36, 3) := by decide +kernel
theorem dX2_put_24 : decode cX2_put 24 = .ok (.aload_n 0, 1) := by decide +kernel
theorem dX2_put_25 : decode cX2_put 25 = .ok (.getfield 23, 3) := by decide +kernel
theorem dX2_put_28 : decode cX2_put 28 = .ok (.aload_n 0, 1) := by decide +kernel
theorem dX2_put_29 : decode cX2_put 29 = .ok (.getfield 32, 3) := by decide +kernel
theorem dX2_put_32 : decode cX2_put 32 = .ok (.iload_n 3, 1) := by decide +kernel
theorem dX2_put_33 : decode cX2_put 33 = .ok (.invokevirtual 36, 3) := by decide +kernel
theorem dX2_put_36 : decode cX2_put 36 = .ok (.aload_n 0, 1) := by decide +kernel
theorem dX2_put_37 : decode cX2_put 37 = .ok (.getfield 26, 3) := by decide +kernel
theorem dX2_put_40 : decode cX2_put 40 = .ok (.aload_n 0, 1) := by decide +kernel
theorem dX2_put_41 : decode cX2_put 41 = .ok (.getfield 32, 3) := by decide +kernel
theorem dX2_put_44 : decode cX2_put 44 = .ok (.iconst 0, 1) := by decide +kernel
theorem dX2_put_45 : decode cX2_put 45 = .ok (.invokevirtual 36, 3) := by decide +kernel
theorem dX2_put_48 : decode cX2_put 48 = .ok (.aload_n 0, 1) := by decide +kernel
theorem dX2_put_49 : decode cX2_put 49 = .ok (.getfield 29, 3) := by decide +kernel
theorem dX2_put_52 : decode cX2_put 52 = .ok (.aload_n 0, 1) := by decide +kernel
theorem dX2_put_53 : decode cX2_put 53 = .ok (.getfield 32, 3) := by decide +kernel
theorem dX2_put_56 : decode cX2_put 56 = .ok (.iconst 0, 1) := by decide +kernel
theorem dX2_put_57 : decode cX2_put 57 = .ok (.invokevirtual 36, 3) := by decide +kernel
theorem dX2_put_60 : decode cX2_put 60 = .ok (.aload_n 0, 1) := by decide +kernel
theorem dX2_put_61 : decode cX2_put 61 = .ok (.dup, 1) := by decide +kernel
theorem dX2_put_62 : decode cX2_put 62 = .ok (.getfield 32, 3) := by decide +kernel
theorem dX2_put_65 : decode cX2_put 65 = .ok (.iconst 1, 1) := by decide +kernel
theorem dX2_put_66 : decode cX2_put 66 = .ok (.iadd, 1) := by decide +kernel
theorem dX2_put_67 : decode cX2_put 67 = .ok (.putfield 32, 3) := by decide +kernel
theorem dX2_put_70 : decode cX2_put 70 = .ok (.aload_n 0, 1) := by decide +kernel
theorem dX2_put_71 : decode cX2_put 71 = .ok (.getfield 32, 3) := by decide +kernel
theorem dX2_put_74 : decode cX2_put 74 = .ok (.iconst 1, 1) := by decide +kernel
theorem dX2_put_75 : decode cX2_put 75 = .ok (.isub, 1) := by decide +kernel
theorem dX2_put_76 : decode cX2_put 76 = .ok (.ireturn, 1) := by decide +kernel
set_option maxRecDepth 20000 in
theorem ggX2_isUnderWay_X3_get : GoodIn wsX2_isUnderWay wsX3_get := goodIn_r _ [6, 7, 14] (by decide +kernel) (by decide +kernel)
set_option maxRecDepth 20000 in
theorem gX2_isUnderWay_X3_get : GoodIn wsX2_isUnderWay (wsV RX2 40 RX3 yX3_get wsX3_get) := goodIn_app (goodIn_of _ (by decide +kernel)) ggX2_isUnderWay_X3_get
theorem dX2_isUnderWay_0 : decode cX2_isUnderWay 0 = .ok (.aload_n 0, 1) := by decide +kernel
theorem dX2_isUnderWay_1 : decode cX2_isUnderWay 1 = .ok (.getfield 26, 3) := by decide +kernel
theorem dX2_isUnderWay_4 : decode cX2_isUnderWay 4 = .ok (.iload_n 1, 1) := by decide +kernel
theorem dX2_isUnderWay_5 : decode cX2_isUnderWay 5 = .ok (.invokevirtual 40, 3) := by decide +kernel
theorem dX2_isUnderWay_8 : decode cX2_isUnderWay 8 = .ok (.ifCond .le 7, 3) := by decide +kernel
theorem dX2_isUnderWay_11 : decode cX2_isUnderWay 11 = .ok (.iconst 1, 1) := by decide +kernel
theorem dX2_isUnderWay_12 : decode cX2_isUnderWay 12 = .ok (.goto 4, 3) := by decide +kernel
theorem dX2_isUnderWay_15 : decode cX2_isUnderWay 15 = .ok (.iconst 0, 1) := by decide +kernel
theorem dX2_isUnderWay_16 : decode cX2_isUnderWay 16 = .ok (.ireturn, 1) := by decide +kernel
set_option maxRecDepth 20000 in
theorem ggX2_areOpposed_X3_get : GoodIn wsX2_areOpposed wsX3_get := goodIn_r _ [7, 8, 15] (by decide +kernel) (by decide +kernel)
set_option maxRecDepth 20000 in
theorem gX2_areOpposed_X3_get : GoodIn wsX2_areOpposed (wsV RX2 40 RX3 yX3_get wsX3_get) := goodIn_app (goodIn_of _ (by decide +kernel)) ggX2_areOpposed_X3_get
theorem dX2_areOpposed_0 : decode cX2_areOpposed 0 = .ok (.aload_n 0, 1) := by decide +kernel
theorem dX2_areOpposed_1 : decode cX2_areOpposed 1 = .ok (.getfield 14, 3) := by decide +kernel
theorem dX2_areOpposed_4 : decode cX2_areOpposed 4 = .ok (.iload_n 1, 1) := by decide +kernel
theorem dX2_areOpposed_5 : decode cX2_areOpposed 5 = .ok (.invokevirtual 40, 3) := by decide +kernel
theorem dX2_areOpposed_8 : decode cX2_areOpposed 8 = .ok (.aload_n 0, 1) := by decide +kernel
theorem dX2_areOpposed_9 : decode cX2_areOpposed 9 = .ok (.getfield 14, 3) := by decide +kernel
theorem dX2_areOpposed_12 : decode cX2_areOpposed 12 = .ok (.iload_n 2, 1) := by decide +kernel
theorem dX2_areOpposed_13 : decode cX2_areOpposed 13 = .ok (.invokevirtual 40, 3) := by decide +kernel
theorem dX2_areOpposed_16 : decode cX2_areOpposed 16 = .ok (.if_icmp .ne 26, 3) := by decide +kernel
theorem dX2_areOpposed_19 : decode cX2_areOpposed 19 = .ok (.aload_n 0, 1) := by decide +kernel
theorem dX2_areOpposed_20 : decode cX2_areOpposed 20 = .ok (.getfield 23, 3) := by decide +kernel
theorem dX2_areOpposed_23 : decode cX2_areOpposed 23 = .ok (.iload_n 1, 1) := by decide +kernel
theorem dX2_areOpposed_24 : decode cX2_areOpposed 24 = .ok (.invokevirtual 40, 3) := by decide +kernel
theorem dX2_areOpposed_27 : decode cX2_areOpposed 27 = .ok (.aload_n 0, 1) := by decide +kernel
theorem dX2_areOpposed_28 : decode cX2_areOpposed 28 = .ok (.getfield 23, 3) := by decide +kernel
theorem dX2_areOpposed_31 : decode cX2_areOpposed 31 = .ok (.iload_n 2, 1) := by decide +kernel
theorem dX2_areOpposed_32 : decode cX2_areOpposed 32 = .ok (.invokevirtual 40, 3) := by decide +kernel
theorem dX2_areOpposed_35 : decode cX2_areOpposed 35 = .ok (.if_icmp .eq 7, 3) := by decide +kernel
theorem dX2_areOpposed_38 : decode cX2_areOpposed 38 = .ok (.iconst 1, 1) := by decide +kernel
theorem dX2_areOpposed_39 : decode cX2_areOpposed 39 = .ok (.goto 4, 3) := by decide +kernel
theorem dX2_areOpposed_42 : decode cX2_areOpposed 42 = .ok (.iconst 0, 1) := by decide +kernel
theorem dX2_areOpposed_43 : decode cX2_areOpposed 43 = .ok (.ireturn, 1) := by decide +kernel
set_option maxRecDepth 20000 in
theorem ggX2_standingAt_X3_get : GoodIn wsX2_standingAt wsX3_get := goodIn_r _ [7, 8, 21] (by decide +kernel) (by decide +kernel)
set_option maxRecDepth 20000 in
theorem gX2_standingAt_X3_get : GoodIn wsX2_standingAt (wsV RX2 40 RX3 yX3_get wsX3_get) := goodIn_app (goodIn_of _ (by decide +kernel)) ggX2_standingAt_X3_get
set_option maxRecDepth 20000 in
theorem ggX2_standingAt_X2_isUnderWay : GoodIn wsX2_standingAt wsX2_isUnderWay := goodIn_r _ [13, 14, 3, 4, 5, 6, 7, 8, 15, 16, 17, 18, 19, 20, 21] (by decide +kernel) (by decide +kernel)
set_option maxRecDepth 20000 in
theorem gX2_standingAt_X2_isUnderWay : GoodIn wsX2_standingAt (wsV RX2 44 RX2 yX2_isUnderWay wsX2_isUnderWay) := goodIn_app (goodIn_of _ (by decide +kernel)) ggX2_standingAt_X2_isUnderWay
theorem dX2_standingAt_0 : decode cX2_standingAt 0 = .ok (.iconst 0, 1) := by decide +kernel
theorem dX2_standingAt_1 : decode cX2_standingAt 1 = .ok (.istore_n 2, 1) := by decide +kernel
theorem dX2_standingAt_2 : decode cX2_standingAt 2 = .ok (.iconst 0, 1) := by decide +kernel
theorem dX2_standingAt_3 : decode cX2_standingAt 3 = .ok (.istore_n 3, 1) := by decide +kernel
theorem dX2_standingAt_4 : decode cX2_standingAt 4 = .ok (.iload_n 3, 1) := by decide +kernel
theorem dX2_standingAt_5 : decode cX2_standingAt 5 = .ok (.aload_n 0, 1) := by decide +kernel
theorem dX2_standingAt_6 : decode cX2_standingAt 6 = .ok (.getfield 32, 3) := by decide +kernel
theorem dX2_standingAt_9 : decode cX2_standingAt 9 = .ok (.if_icmp .ge 32, 3) := by decide +kernel
theorem dX2_standingAt_12 : decode cX2_standingAt 12 = .ok (.aload_n 0, 1) := by decide +kernel
theorem dX2_standingAt_13 : decode cX2_standingAt 13 = .ok (.getfield 23, 3) := by decide +kernel
theorem dX2_standingAt_16 : decode cX2_standingAt 16 = .ok (.iload_n 3, 1) := by decide +kernel
theorem dX2_standingAt_17 : decode cX2_standingAt 17 = .ok (.invokevirtual 40, 3) := by decide +kernel
theorem dX2_standingAt_20 : decode cX2_standingAt 20 = .ok (.iload_n 1, 1) := by decide +kernel
theorem dX2_standingAt_21 : decode cX2_standingAt 21 = .ok (.if_icmp .ne 14, 3) := by decide +kernel
theorem dX2_standingAt_24 : decode cX2_standingAt 24 = .ok (.aload_n 0, 1) := by decide +kernel
theorem dX2_standingAt_25 : decode cX2_standingAt 25 = .ok (.iload_n 3, 1) := by decide +kernel
theorem dX2_standingAt_26 : decode cX2_standingAt 26 = .ok (.invokevirtual 44, 3) := by decide +kernel
theorem dX2_standingAt_29 : decode cX2_standingAt 29 = .ok (.ifCond .ne 6, 3) := by decide +kernel
theorem dX2_standingAt_32 : decode cX2_standingAt 32 = .ok (.iinc 2 1, 3) := by decide +kernel
theorem dX2_standingAt_35 : decode cX2_standingAt 35 = .ok (.iinc 3 1, 3) := by decide +kernel
theorem dX2_standingAt_38 : decode cX2_standingAt 38 = .ok (.goto (-34), 3) := by decide +kernel
theorem dX2_standingAt_41 : decode cX2_standingAt 41 = .ok (.iload_n 2, 1) := by decide +kernel
theorem dX2_standingAt_42 : decode cX2_standingAt 42 = .ok (.ireturn, 1) := by decide +kernel
set_option maxRecDepth 20000 in
theorem ggX2_ofRoad_X3_get : GoodIn wsX2_ofRoad wsX3_get := goodIn_r _ [7, 8, 15] (by decide +kernel) (by decide +kernel)
set_option maxRecDepth 20000 in
theorem gX2_ofRoad_X3_get : GoodIn wsX2_ofRoad (wsV RX2 40 RX3 yX3_get wsX3_get) := goodIn_app (goodIn_of _ (by decide +kernel)) ggX2_ofRoad_X3_get
theorem dX2_ofRoad_0 : decode cX2_ofRoad 0 = .ok (.iconst 0, 1) := by decide +kernel
theorem dX2_ofRoad_1 : decode cX2_ofRoad 1 = .ok (.istore_n 2, 1) := by decide +kernel
theorem dX2_ofRoad_2 : decode cX2_ofRoad 2 = .ok (.iconst 0, 1) := by decide +kernel
theorem dX2_ofRoad_3 : decode cX2_ofRoad 3 = .ok (.istore_n 3, 1) := by decide +kernel
theorem dX2_ofRoad_4 : decode cX2_ofRoad 4 = .ok (.iload_n 3, 1) := by decide +kernel
theorem dX2_ofRoad_5 : decode cX2_ofRoad 5 = .ok (.aload_n 0, 1) := by decide +kernel
theorem dX2_ofRoad_6 : decode cX2_ofRoad 6 = .ok (.getfield 32, 3) := by decide +kernel
theorem dX2_ofRoad_9 : decode cX2_ofRoad 9 = .ok (.if_icmp .ge 24, 3) := by decide +kernel
theorem dX2_ofRoad_12 : decode cX2_ofRoad 12 = .ok (.aload_n 0, 1) := by decide +kernel
theorem dX2_ofRoad_13 : decode cX2_ofRoad 13 = .ok (.getfield 14, 3) := by decide +kernel
theorem dX2_ofRoad_16 : decode cX2_ofRoad 16 = .ok (.iload_n 3, 1) := by decide +kernel
theorem dX2_ofRoad_17 : decode cX2_ofRoad 17 = .ok (.invokevirtual 40, 3) := by decide +kernel
theorem dX2_ofRoad_20 : decode cX2_ofRoad 20 = .ok (.iload_n 1, 1) := by decide +kernel
theorem dX2_ofRoad_21 : decode cX2_ofRoad 21 = .ok (.if_icmp .ne 6, 3) := by decide +kernel
theorem dX2_ofRoad_24 : decode cX2_ofRoad 24 = .ok (.iinc 2 1, 3) := by decide +kernel
theorem dX2_ofRoad_27 : decode cX2_ofRoad 27 = .ok (.iinc 3 1, 3) := by decide +kernel
theorem dX2_ofRoad_30 : decode cX2_ofRoad 30 = .ok (.goto (-26), 3) := by decide +kernel
theorem dX2_ofRoad_33 : decode cX2_ofRoad 33 = .ok (.iload_n 2, 1) := by decide +kernel
theorem dX2_ofRoad_34 : decode cX2_ofRoad 34 = .ok (.ireturn, 1) := by decide +kernel
set_option maxRecDepth 20000 in
theorem ggX2_underWayOn_X3_get : GoodIn wsX2_underWayOn wsX3_get := goodIn_r _ [7, 8, 21] (by decide +kernel) (by decide +kernel)
set_option maxRecDepth 20000 in
theorem gX2_underWayOn_X3_get : GoodIn wsX2_underWayOn (wsV RX2 40 RX3 yX3_get wsX3_get) := goodIn_app (goodIn_of _ (by decide +kernel)) ggX2_underWayOn_X3_get
set_option maxRecDepth 20000 in
theorem ggX2_underWayOn_X2_isUnderWay : GoodIn wsX2_underWayOn wsX2_isUnderWay := goodIn_r _ [13, 14, 3, 4, 5, 6, 7, 8, 15, 16, 17, 18, 19, 20, 21] (by decide +kernel) (by decide +kernel)
set_option maxRecDepth 20000 in
theorem gX2_underWayOn_X2_isUnderWay : GoodIn wsX2_underWayOn (wsV RX2 44 RX2 yX2_isUnderWay wsX2_isUnderWay) := goodIn_app (goodIn_of _ (by decide +kernel)) ggX2_underWayOn_X2_isUnderWay
theorem dX2_underWayOn_0 : decode cX2_underWayOn 0 = .ok (.iconst 0, 1) := by decide +kernel
theorem dX2_underWayOn_1 : decode cX2_underWayOn 1 = .ok (.istore_n 2, 1) := by decide +kernel
theorem dX2_underWayOn_2 : decode cX2_underWayOn 2 = .ok (.iconst 0, 1) := by decide +kernel
theorem dX2_underWayOn_3 : decode cX2_underWayOn 3 = .ok (.istore_n 3, 1) := by decide +kernel
theorem dX2_underWayOn_4 : decode cX2_underWayOn 4 = .ok (.iload_n 3, 1) := by decide +kernel
theorem dX2_underWayOn_5 : decode cX2_underWayOn 5 = .ok (.aload_n 0, 1) := by decide +kernel
theorem dX2_underWayOn_6 : decode cX2_underWayOn 6 = .ok (.getfield 32, 3) := by decide +kernel
theorem dX2_underWayOn_9 : decode cX2_underWayOn 9 = .ok (.if_icmp .ge 32, 3) := by decide +kernel
theorem dX2_underWayOn_12 : decode cX2_underWayOn 12 = .ok (.aload_n 0, 1) := by decide +kernel
theorem dX2_underWayOn_13 : decode cX2_underWayOn 13 = .ok (.getfield 14, 3) := by decide +kernel
theorem dX2_underWayOn_16 : decode cX2_underWayOn 16 = .ok (.iload_n 3, 1) := by decide +kernel
theorem dX2_underWayOn_17 : decode cX2_underWayOn 17 = .ok (.invokevirtual 40, 3) := by decide +kernel
theorem dX2_underWayOn_20 : decode cX2_underWayOn 20 = .ok (.iload_n 1, 1) := by decide +kernel
theorem dX2_underWayOn_21 : decode cX2_underWayOn 21 = .ok (.if_icmp .ne 14, 3) := by decide +kernel
theorem dX2_underWayOn_24 : decode cX2_underWayOn 24 = .ok (.aload_n 0, 1) := by decide +kernel
theorem dX2_underWayOn_25 : decode cX2_underWayOn 25 = .ok (.iload_n 3, 1) := by decide +kernel
theorem dX2_underWayOn_26 : decode cX2_underWayOn 26 = .ok (.invokevirtual 44, 3) := by decide +kernel
theorem dX2_underWayOn_29 : decode cX2_underWayOn 29 = .ok (.ifCond .eq 6, 3) := by decide +kernel
theorem dX2_underWayOn_32 : decode cX2_underWayOn 32 = .ok (.iinc 2 1, 3) := by decide +kernel
theorem dX2_underWayOn_35 : decode cX2_underWayOn 35 = .ok (.iinc 3 1, 3) := by decide +kernel
theorem dX2_underWayOn_38 : decode cX2_underWayOn 38 = .ok (.goto (-34), 3) := by decide +kernel
theorem dX2_underWayOn_41 : decode cX2_underWayOn 41 = .ok (.iload_n 2, 1) := by decide +kernel
theorem dX2_underWayOn_42 : decode cX2_underWayOn 42 = .ok (.ireturn, 1) := by decide +kernel
set_option maxRecDepth 20000 in
theorem ggX2_copyFrom_X3_copyFrom : GoodIn wsX2_copyFrom wsX3_copyFrom := goodIn_r _ [11, 12, 13, 14, 15, 16, 17, 18, 19, 20, 27] (by decide +kernel) (by decide +kernel)
set_option maxRecDepth 20000 in
theorem gX2_copyFrom_X3_copyFrom : GoodIn wsX2_copyFrom (wsV RX2 48 RX3 yX3_copyFrom wsX3_copyFrom) := goodIn_app (goodIn_of _ (by decide +kernel)) ggX2_copyFrom_X3_copyFrom
theorem dX2_copyFrom_0 : decode cX2_copyFrom 0 = .ok (.aload_n 0, 1) := by decide +kernel
theorem dX2_copyFrom_1 : decode cX2_copyFrom 1 = .ok (.aload_n 1, 1) := by decide +kernel
theorem dX2_copyFrom_2 : decode cX2_copyFrom 2 = .ok (.getfield 32, 3) := by decide +kernel
theorem dX2_copyFrom_5 : decode cX2_copyFrom 5 = .ok (.putfield 32, 3) := by decide +kernel
theorem dX2_copyFrom_8 : decode cX2_copyFrom 8 = .ok (.aload_n 0, 1) := by decide +kernel
theorem dX2_copyFrom_9 : decode cX2_copyFrom 9 = .ok (.getfield 14, 3) := by decide +kernel
theorem dX2_copyFrom_12 : decode cX2_copyFrom 12 = .ok (.aload_n 1, 1) := by decide +kernel
theorem dX2_copyFrom_13 : decode cX2_copyFrom 13 = .ok (.getfield 14, 3) := by decide +kernel
theorem dX2_copyFrom_16 : decode cX2_copyFrom 16 = .ok (.invokevirtual 48, 3) := by decide +kernel
theorem dX2_copyFrom_19 : decode cX2_copyFrom 19 = .ok (.aload_n 0, 1) := by decide +kernel
theorem dX2_copyFrom_20 : decode cX2_copyFrom 20 = .ok (.getfield 20, 3) := by decide +kernel
theorem dX2_copyFrom_23 : decode cX2_copyFrom 23 = .ok (.aload_n 1, 1) := by decide +kernel
theorem dX2_copyFrom_24 : decode cX2_copyFrom 24 = .ok (.getfield 20, 3) := by decide +kernel
theorem dX2_copyFrom_27 : decode cX2_copyFrom 27 = .ok (.invokevirtual 48, 3) := by decide +kernel
theorem dX2_copyFrom_30 : decode cX2_copyFrom 30 = .ok (.aload_n 0, 1) := by decide +kernel
theorem dX2_copyFrom_31 : decode cX2_copyFrom 31 = .ok (.getfield 23, 3) := by decide +kernel
theorem dX2_copyFrom_34 : decode cX2_copyFrom 34 = .ok (.aload_n 1, 1) := by decide +kernel
theorem dX2_copyFrom_35 : decode cX2_copyFrom 35 = .ok (.getfield 23, 3) := by decide +kernel
theorem dX2_copyFrom_38 : decode cX2_copyFrom 38 = .ok (.invokevirtual 48, 3) := by decide +kernel
theorem dX2_copyFrom_41 : decode cX2_copyFrom 41 = .ok (.aload_n 0, 1) := by decide +kernel
theorem dX2_copyFrom_42 : decode cX2_copyFrom 42 = .ok (.getfield 26, 3) := by decide +kernel
theorem dX2_copyFrom_45 : decode cX2_copyFrom 45 = .ok (.aload_n 1, 1) := by decide +kernel
theorem dX2_copyFrom_46 : decode cX2_copyFrom 46 = .ok (.getfield 26, 3) := by decide +kernel
theorem dX2_copyFrom_49 : decode cX2_copyFrom 49 = .ok (.invokevirtual 48, 3) := by decide +kernel
theorem dX2_copyFrom_52 : decode cX2_copyFrom 52 = .ok (.aload_n 0, 1) := by decide +kernel
theorem dX2_copyFrom_53 : decode cX2_copyFrom 53 = .ok (.getfield 29, 3) := by decide +kernel
theorem dX2_copyFrom_56 : decode cX2_copyFrom 56 = .ok (.aload_n 1, 1) := by decide +kernel
theorem dX2_copyFrom_57 : decode cX2_copyFrom 57 = .ok (.getfield 29, 3) := by decide +kernel
theorem dX2_copyFrom_60 : decode cX2_copyFrom 60 = .ok (.invokevirtual 48, 3) := by decide +kernel
theorem dX2_copyFrom_63 : decode cX2_copyFrom 63 = .ok (.return_, 1) := by decide +kernel
theorem dX3_init_0 : decode cX3_init 0 = .ok (.aload_n 0, 1) := by decide +kernel
theorem dX3_init_1 : decode cX3_init 1 = .ok (.invokespecial 1, 3) := by decide +kernel
theorem dX3_init_4 : decode cX3_init 4 = .ok (.aload_n 0, 1) := by decide +kernel
theorem dX3_init_5 : decode cX3_init 5 = .ok (.iconst 0, 1) := by decide +kernel
theorem dX3_init_6 : decode cX3_init 6 = .ok (.iload_n 1, 1) := by decide +kernel
theorem dX3_init_7 : decode cX3_init 7 = .ok (.invokestatic 7, 3) := by decide +kernel
theorem dX3_init_10 : decode cX3_init 10 = .ok (.newarray .int, 2) := by decide +kernel
theorem dX3_init_12 : decode cX3_init 12 = .ok (.putfield 13, 3) := by decide +kernel
theorem dX3_init_15 : decode cX3_init 15 = .ok (.return_, 1) := by decide +kernel
theorem dX3_get_0 : decode cX3_get 0 = .ok (.iload_n 1, 1) := by decide +kernel
theorem dX3_get_1 : decode cX3_get 1 = .ok (.ifCond .lt 21, 3) := by decide +kernel
theorem dX3_get_4 : decode cX3_get 4 = .ok (.iload_n 1, 1) := by decide +kernel
theorem dX3_get_5 : decode cX3_get 5 = .ok (.aload_n 0, 1) := by decide +kernel
theorem dX3_get_6 : decode cX3_get 6 = .ok (.getfield 13, 3) := by decide +kernel
theorem dX3_get_9 : decode cX3_get 9 = .ok (.arraylength, 1) := by decide +kernel
theorem dX3_get_10 : decode cX3_get 10 = .ok (.if_icmp .ge 12, 3) := by decide +kernel
theorem dX3_get_13 : decode cX3_get 13 = .ok (.aload_n 0, 1) := by decide +kernel
theorem dX3_get_14 : decode cX3_get 14 = .ok (.getfield 13, 3) := by decide +kernel
theorem dX3_get_17 : decode cX3_get 17 = .ok (.iload_n 1, 1) := by decide +kernel
theorem dX3_get_18 : decode cX3_get 18 = .ok (.iaload, 1) := by decide +kernel
theorem dX3_get_19 : decode cX3_get 19 = .ok (.goto 4, 3) := by decide +kernel
theorem dX3_get_22 : decode cX3_get 22 = .ok (.iconst 0, 1) := by decide +kernel
theorem dX3_get_23 : decode cX3_get 23 = .ok (.ireturn, 1) := by decide +kernel
theorem dX3_set_0 : decode cX3_set 0 = .ok (.iload_n 1, 1) := by decide +kernel
theorem dX3_set_1 : decode cX3_set 1 = .ok (.ifCond .lt 19, 3) := by decide +kernel
theorem dX3_set_4 : decode cX3_set 4 = .ok (.iload_n 1, 1) := by decide +kernel
theorem dX3_set_5 : decode cX3_set 5 = .ok (.aload_n 0, 1) := by decide +kernel
theorem dX3_set_6 : decode cX3_set 6 = .ok (.getfield 13, 3) := by decide +kernel
theorem dX3_set_9 : decode cX3_set 9 = .ok (.arraylength, 1) := by decide +kernel
theorem dX3_set_10 : decode cX3_set 10 = .ok (.if_icmp .ge 10, 3) := by decide +kernel
theorem dX3_set_13 : decode cX3_set 13 = .ok (.aload_n 0, 1) := by decide +kernel
theorem dX3_set_14 : decode cX3_set 14 = .ok (.getfield 13, 3) := by decide +kernel
theorem dX3_set_17 : decode cX3_set 17 = .ok (.iload_n 1, 1) := by decide +kernel
theorem dX3_set_18 : decode cX3_set 18 = .ok (.iload_n 2, 1) := by decide +kernel
theorem dX3_set_19 : decode cX3_set 19 = .ok (.iastore, 1) := by decide +kernel
theorem dX3_set_20 : decode cX3_set 20 = .ok (.return_, 1) := by decide +kernel
theorem dX3_copyFrom_0 : decode cX3_copyFrom 0 = .ok (.aload_n 1, 1) := by decide +kernel
theorem dX3_copyFrom_1 : decode cX3_copyFrom 1 = .ok (.getfield 13, 3) := by decide +kernel
theorem dX3_copyFrom_4 : decode cX3_copyFrom 4 = .ok (.iconst 0, 1) := by decide +kernel
theorem dX3_copyFrom_5 : decode cX3_copyFrom 5 = .ok (.aload_n 0, 1) := by decide +kernel
theorem dX3_copyFrom_6 : decode cX3_copyFrom 6 = .ok (.getfield 13, 3) := by decide +kernel
theorem dX3_copyFrom_9 : decode cX3_copyFrom 9 = .ok (.iconst 0, 1) := by decide +kernel
theorem dX3_copyFrom_10 : decode cX3_copyFrom 10 = .ok (.aload_n 0, 1) := by decide +kernel
theorem dX3_copyFrom_11 : decode cX3_copyFrom 11 = .ok (.getfield 13, 3) := by decide +kernel
theorem dX3_copyFrom_14 : decode cX3_copyFrom 14 = .ok (.arraylength, 1) := by decide +kernel
theorem dX3_copyFrom_15 : decode cX3_copyFrom 15 = .ok (.aload_n 1, 1) := by decide +kernel
theorem dX3_copyFrom_16 : decode cX3_copyFrom 16 = .ok (.getfield 13, 3) := by decide +kernel
theorem dX3_copyFrom_19 : decode cX3_copyFrom 19 = .ok (.arraylength, 1) := by decide +kernel
theorem dX3_copyFrom_20 : decode cX3_copyFrom 20 = .ok (.invokestatic 19, 3) := by decide +kernel
theorem dX3_copyFrom_23 : decode cX3_copyFrom 23 = .ok (.invokestatic 22, 3) := by decide +kernel
theorem dX3_copyFrom_26 : decode cX3_copyFrom 26 = .ok (.return_, 1) := by decide +kernel
set_option maxRecDepth 20000 in
theorem ggX4_init_X5_init : GoodIn wsX4_init wsX5_init := goodIn_r _ [23, 24, 2, 3, 25, 17, 18, 26, 27, 28, 29, 30, 31, 32, 33, 34, 35, 36, 37, 38, 39, 40, 41, 42, 97, 70, 71] (by decide +kernel) (by decide +kernel)
set_option maxRecDepth 20000 in
theorem gX4_init_X5_init : GoodIn wsX4_init (wsX5_init) := ggX4_init_X5_init
set_option maxRecDepth 20000 in
theorem ggX4_init_X2_init : GoodIn wsX4_init wsX2_init := goodIn_r _ [44, 45, 2, 3, 46, 17, 18, 47, 48, 49, 50, 51, 52, 30, 31, 32, 33, 34, 35, 36, 37, 38, 97, 79, 80, 81, 82, 83, 84] (by decide +kernel) (by decide +kernel)
set_option maxRecDepth 20000 in
theorem gX4_init_X2_init_n20 : GoodIn wsX4_init (wsX2_init) := ggX4_init_X2_init
set_option maxRecDepth 20000 in
theorem ggX4_init_X1_init : GoodIn wsX4_init wsX1_init := goodIn_r _ [54, 55, 2, 3, 56, 17, 18, 57, 58, 59, 60, 61, 62, 63, 64, 65, 66, 67, 68, 30, 31, 32, 33, 34, 35, 36, 37, 38, 97, 85, 86, 87, 88, 89, 90, 91, 92, 93, 94, 95, 96] (by decide +kernel) (by decide +kernel)
set_option maxRecDepth 20000 in
theorem gX4_init_X1_init_n27 : GoodIn wsX4_init (wsX1_init) := ggX4_init_X1_init
set_option maxRecDepth 20000 in
theorem ggX4_init_X3_init : GoodIn wsX4_init wsX3_init := goodIn_r _ [31, 32, 2, 3, 33, 34, 35, 36, 37, 38, 97] (by decide +kernel) (by decide +kernel)
set_option maxRecDepth 20000 in
theorem gX4_init_X3_init : GoodIn wsX4_init (wsX3_init) := ggX4_init_X3_init
theorem dX4_init_0 : decode cX4_init 0 = .ok (.aload_n 0, 1) := by decide +kernel
theorem dX4_init_1 : decode cX4_init 1 = .ok (.invokespecial 3, 3) := by decide +kernel
theorem dX4_init_4 : decode cX4_init 4 = .ok (.aload_n 0, 1) := by decide +kernel
theorem dX4_init_5 : decode cX4_init 5 = .ok (.new 9, 3) := by decide +kernel
theorem dX4_init_8 : decode cX4_init 8 = .ok (.dup, 1) := by decide +kernel
theorem dX4_init_9 : decode cX4_init 9 = .ok (.invokespecial 11, 3) := by decide +kernel
theorem dX4_init_12 : decode cX4_init 12 = .ok (.putfield 12, 3) := by decide +kernel
theorem dX4_init_15 : decode cX4_init 15 = .ok (.aload_n 0, 1) := by decide +kernel
theorem dX4_init_16 : decode cX4_init 16 = .ok (.new 18, 3) := by decide +kernel
theorem dX4_init_19 : decode cX4_init 19 = .ok (.dup, 1) := by decide +kernel
theorem dX4_init_20 : decode cX4_init 20 = .ok (.invokespecial 20, 3) := by decide +kernel
theorem dX4_init_23 : decode cX4_init 23 = .ok (.putfield 21, 3) := by decide +kernel
theorem dX4_init_26 : decode cX4_init 26 = .ok (.aload_n 0, 1) := by decide +kernel
theorem dX4_init_27 : decode cX4_init 27 = .ok (.new 25, 3) := by decide +kernel
theorem dX4_init_30 : decode cX4_init 30 = .ok (.dup, 1) := by decide +kernel
theorem dX4_init_31 : decode cX4_init 31 = .ok (.invokespecial 27, 3) := by decide +kernel
theorem dX4_init_34 : decode cX4_init 34 = .ok (.putfield 28, 3) := by decide +kernel
theorem dX4_init_37 : decode cX4_init 37 = .ok (.aload_n 0, 1) := by decide +kernel
theorem dX4_init_38 : decode cX4_init 38 = .ok (.new 32, 3) := by decide +kernel
theorem dX4_init_41 : decode cX4_init 41 = .ok (.dup, 1) := by decide +kernel
theorem dX4_init_42 : decode cX4_init 42 = .ok (.bipush 60, 2) := by decide +kernel
theorem dX4_init_44 : decode cX4_init 44 = .ok (.invokespecial 34, 3) := by decide +kernel
theorem dX4_init_47 : decode cX4_init 47 = .ok (.putfield 37, 3) := by decide +kernel
theorem dX4_init_50 : decode cX4_init 50 = .ok (.aload_n 0, 1) := by decide +kernel
theorem dX4_init_51 : decode cX4_init 51 = .ok (.aload_n 1, 1) := by decide +kernel
theorem dX4_init_52 : decode cX4_init 52 = .ok (.putfield 41, 3) := by decide +kernel
theorem dX4_init_55 : decode cX4_init 55 = .ok (.return_, 1) := by decide +kernel
set_option maxRecDepth 20000 in
theorem ggX4_putMule_X2_put : GoodIn wsX4_putMule wsX2_put := goodIn_r _ [8, 9, 10, 11, 12, 13, 14, 15, 16, 17, 18, 19, 20, 80, 81, 82, 83, 84, 85, 86] (by decide +kernel) (by decide +kernel)
set_option maxRecDepth 20000 in
theorem gX4_putMule_X2_put : GoodIn wsX4_putMule (wsV RX4 45 RX2 yX2_put wsX2_put) := goodIn_app (goodIn_of _ (by decide +kernel)) ggX4_putMule_X2_put
set_option maxRecDepth 20000 in
theorem ggX4_putMule_X2_ofRoad : GoodIn wsX4_putMule wsX2_ofRoad := goodIn_r _ [24, 10, 9, 25, 26, 27, 18, 28, 20, 80, 81, 82, 83, 84, 85, 86] (by decide +kernel) (by decide +kernel)
set_option maxRecDepth 20000 in
theorem gX4_putMule_X2_ofRoad : GoodIn wsX4_putMule (wsV RX4 49 RX2 yX2_ofRoad wsX2_ofRoad) := goodIn_app (goodIn_of _ (by decide +kernel)) ggX4_putMule_X2_ofRoad
set_option maxRecDepth 20000 in
theorem ggX4_putMule_X5_find : GoodIn wsX4_putMule wsX5_find := goodIn_r _ [33, 34, 22, 23, 7, 24, 10, 9, 25, 26, 27, 18, 28, 20, 35, 36, 37, 38, 39, 40, 41, 42, 43, 44, 45, 46, 47, 48, 49, 50, 32, 51, 52, 53, 54, 55, 56, 57, 16, 17, 19, 58, 59, 60, 61, 62, 63, 64, 65, 66, 67, 68, 69, 70, 71, 72, 87, 88, 89, 90, 91, 92, 93, 94, 80, 81, 82, 83, 84, 85, 86, 95, 96] (by decide +kernel) (by decide +kernel)
set_option maxRecDepth 20000 in
theorem gX4_putMule_X5_find : GoodIn wsX4_putMule (wsV RX4 53 RX5 yX5_find wsX5_find) := goodIn_app (goodIn_of _ (by decide +kernel)) ggX4_putMule_X5_find
theorem dX4_putMule_0 : decode cX4_putMule 0 = .ok (.aload_n 0, 1) := by decide +kernel
theorem dX4_putMule_1 : decode cX4_putMule 1 = .ok (.getfield 21, 3) := by decide +kernel
theorem dX4_putMule_4 : decode cX4_putMule 4 = .ok (.iload_n 1, 1) := by decide +kernel
theorem dX4_putMule_5 : decode cX4_putMule 5 = .ok (.iload_n 2, 1) := by decide +kernel
theorem dX4_putMule_6 : decode cX4_putMule 6 = .ok (.iload_n 3, 1) := by decide +kernel
theorem dX4_putMule_7 : decode cX4_putMule 7 = .ok (.invokevirtual 45, 3) := by decide +kernel
theorem dX4_putMule_10 : decode cX4_putMule 10 = .ok (.istore 4, 2) := by decide +kernel
theorem dX4_putMule_12 : decode cX4_putMule 12 = .ok (.aload_n 0, 1) := by decide +kernel
theorem dX4_putMule_13 : decode cX4_putMule 13 = .ok (.getfield 21, 3) := by decide +kernel
theorem dX4_putMule_16 : decode cX4_putMule 16 = .ok (.iload_n 1, 1) := by decide +kernel
theorem dX4_putMule_17 : decode cX4_putMule 17 = .ok (.invokevirtual 49, 3) := by decide +kernel
theorem dX4_putMule_20 : decode cX4_putMule 20 = .ok (.iconst 1, 1) := by decide +kernel
theorem dX4_putMule_21 : decode cX4_putMule 21 = .ok (.if_icmp .ne 18, 3) := by decide +kernel
theorem dX4_putMule_24 : decode cX4_putMule 24 = .ok (.aload_n 0, 1) := by decide +kernel
theorem dX4_putMule_25 : decode cX4_putMule 25 = .ok (.getfield 12, 3) := by decide +kernel
theorem dX4_putMule_28 : decode cX4_putMule 28 = .ok (.aload_n 0, 1) := by decide +kernel
theorem dX4_putMule_29 : decode cX4_putMule 29 = .ok (.getfield 41, 3) := by decide +kernel
theorem dX4_putMule_32 : decode cX4_putMule 32 = .ok (.aload_n 0, 1) := by decide +kernel
theorem dX4_putMule_33 : decode cX4_putMule 33 = .ok (.getfield 21, 3) := by decide +kernel
theorem dX4_putMule_36 : decode cX4_putMule 36 = .ok (.invokevirtual 53, 3) := by decide +kernel
theorem dX4_putMule_39 : decode cX4_putMule 39 = .ok (.iload 4, 2) := by decide +kernel
theorem dX4_putMule_41 : decode cX4_putMule 41 = .ok (.ireturn, 1) := by decide +kernel
set_option maxRecDepth 20000 in
theorem ggX4_letHoursGoBy_X1_inState : GoodIn wsX4_letHoursGoBy wsX1_inState := goodIn_r _ [7, 8, 9, 10, 11, 12, 13, 14, 15, 164, 165, 166, 167, 168, 169, 170, 171, 172, 173, 174, 175, 176] (by decide +kernel) (by decide +kernel)
set_option maxRecDepth 20000 in
theorem gX4_letHoursGoBy_X1_inState : GoodIn wsX4_letHoursGoBy (wsV RX4 57 RX1 yX1_inState wsX1_inState) := goodIn_app (goodIn_of _ (by decide +kernel)) ggX4_letHoursGoBy_X1_inState
set_option maxRecDepth 20000 in
theorem ggX4_letHoursGoBy_X4_bringMules : GoodIn wsX4_letHoursGoBy wsX4_bringMules := goodIn_r _ [20, 21, 22, 23, 24, 25, 26, 27, 28, 11, 12, 13, 14, 15, 29, 30, 31, 32, 33, 34, 35, 36, 19, 37, 1, 2, 38, 39, 40, 6, 41, 9, 42, 10, 43, 44, 45, 46, 47, 48, 49, 50, 51, 52, 53, 54, 55, 56, 157, 158, 159, 160, 161, 162, 163, 177, 178, 179, 180, 181, 182, 176, 164, 165, 166, 167, 168, 169, 170, 171, 172, 173, 174, 175] (by decide +kernel) (by decide +kernel)
set_option maxRecDepth 20000 in
theorem gX4_letHoursGoBy_X4_bringMules : GoodIn wsX4_letHoursGoBy (wsV RX4 60 RX4 yX4_bringMules wsX4_bringMules) := goodIn_app (goodIn_of _ (by decide +kernel)) ggX4_letHoursGoBy_X4_bringMules
set_option maxRecDepth 20000 in
theorem ggX4_letHoursGoBy_X4_spreadFires : GoodIn wsX4_letHoursGoBy wsX4_spreadFires := goodIn_r _ [60, 1, 61, 2, 62, 63, 64, 6, 65, 66, 10, 11, 12, 13, 14, 15, 29, 67, 68, 69, 70, 71, 72, 73, 74, 75, 76, 77, 78, 30, 31, 32, 33, 79, 80, 81, 82, 48, 47, 50, 83, 44, 45, 46, 42, 9, 49, 51, 52, 53, 54, 55, 56, 157, 158, 159, 160, 161, 162, 163, 164, 165, 166, 167, 168, 169, 170, 171, 172, 173, 174, 175, 176, 183, 184, 185, 186, 187, 188, 189, 190] (by decide +kernel) (by decide +kernel)
set_option maxRecDepth 20000 in
theorem gX4_letHoursGoBy_X4_spreadFires : GoodIn wsX4_letHoursGoBy (wsV RX4 64 RX4 yX4_spreadFires wsX4_spreadFires) := goodIn_app (goodIn_of _ (by decide +kernel)) ggX4_letHoursGoBy_X4_spreadFires
set_option maxRecDepth 20000 in
theorem ggX4_letHoursGoBy_X4_sendMules : GoodIn wsX4_letHoursGoBy wsX4_sendMules := goodIn_r _ [87, 21, 88, 89, 90, 19, 91, 1, 92, 29, 11, 12, 13, 14, 15, 93, 94, 95, 96, 97, 98, 52, 53, 6, 54, 48, 55, 56, 10, 99, 100, 101, 102, 103, 104, 105, 30, 31, 32, 33, 106, 76, 107, 22, 23, 24, 25, 26, 27, 28, 75, 77, 108, 109, 110, 111, 112, 113, 114, 115, 9, 47, 42, 50, 116, 117, 118, 119, 61, 120, 121, 122, 123, 70, 124, 125, 126, 78, 127, 128, 129, 130, 131, 132, 133, 134, 135, 136, 137, 138, 139, 140, 141, 142, 143, 144, 145, 146, 147, 38, 39, 40, 41, 148, 149, 150, 151, 152, 153, 154, 155, 156, 157, 158, 159, 160, 161, 162, 163, 177, 178, 179, 180, 181, 182, 164, 165, 166, 167, 168, 169, 170, 171, 172, 173, 174, 175, 176, 191, 192, 183, 184, 185, 186, 187, 188, 189, 190] (by decide +kernel) (by decide +kernel)
set_option maxRecDepth 20000 in
theorem gX4_letHoursGoBy_X4_sendMules : GoodIn wsX4_letHoursGoBy (wsV RX4 67 RX4 yX4_sendMules wsX4_sendMules) := goodIn_app (goodIn_of _ (by decide +kernel)) ggX4_letHoursGoBy_X4_sendMules
theorem dX4_letHoursGoBy_0 : decode cX4_letHoursGoBy 0 = .ok (.aload_n 0, 1) := by decide +kernel
theorem dX4_letHoursGoBy_1 : decode cX4_letHoursGoBy 1 = .ok (.getfield 28, 3) := by decide +kernel
theorem dX4_letHoursGoBy_4 : decode cX4_letHoursGoBy 4 = .ok (.iconst 2, 1) := by decide +kernel
theorem dX4_letHoursGoBy_5 : decode cX4_letHoursGoBy 5 = .ok (.invokevirtual 57, 3) := by decide +kernel
theorem dX4_letHoursGoBy_8 : decode cX4_letHoursGoBy 8 = .ok (.istore_n 2, 1) := by decide +kernel
theorem dX4_letHoursGoBy_9 : decode cX4_letHoursGoBy 9 = .ok (.iconst 1, 1) := by decide +kernel
theorem dX4_letHoursGoBy_10 : decode cX4_letHoursGoBy 10 = .ok (.istore_n 3, 1) := by decide +kernel
theorem dX4_letHoursGoBy_11 : decode cX4_letHoursGoBy 11 = .ok (.iconst 0, 1) := by decide +kernel
theorem dX4_letHoursGoBy_12 : decode cX4_letHoursGoBy 12 = .ok (.istore 4, 2) := by decide +kernel
theorem dX4_letHoursGoBy_14 : decode cX4_letHoursGoBy 14 = .ok (.iload 4, 2) := by decide +kernel
theorem dX4_letHoursGoBy_16 : decode cX4_letHoursGoBy 16 = .ok (.iload_n 1, 1) := by decide +kernel
theorem dX4_letHoursGoBy_17 : decode cX4_letHoursGoBy 17 = .ok (.if_icmp .ge 62, 3) := by decide +kernel
theorem dX4_letHoursGoBy_20 : decode cX4_letHoursGoBy 20 = .ok (.iload_n 3, 1) := by decide +kernel
theorem dX4_letHoursGoBy_21 : decode cX4_letHoursGoBy 21 = .ok (.ifCond .eq 42, 3) := by decide +kernel
theorem dX4_letHoursGoBy_24 : decode cX4_letHoursGoBy 24 = .ok (.aload_n 0, 1) := by decide +kernel
theorem dX4_letHoursGoBy_25 : decode cX4_letHoursGoBy 25 = .ok (.invokevirtual 60, 3) := by decide +kernel
theorem dX4_letHoursGoBy_28 : decode cX4_letHoursGoBy 28 = .ok (.istore 5, 2) := by decide +kernel
theorem dX4_letHoursGoBy_30 : decode cX4_letHoursGoBy 30 = .ok (.aload_n 0, 1) := by decide +kernel
theorem dX4_letHoursGoBy_31 : decode cX4_letHoursGoBy 31 = .ok (.invokevirtual 64, 3) := by decide +kernel
theorem dX4_letHoursGoBy_34 : decode cX4_letHoursGoBy 34 = .ok (.istore 6, 2) := by decide +kernel
theorem dX4_letHoursGoBy_36 : decode cX4_letHoursGoBy 36 = .ok (.aload_n 0, 1) := by decide +kernel
theorem dX4_letHoursGoBy_37 : decode cX4_letHoursGoBy 37 = .ok (.invokevirtual 67, 3) := by decide +kernel
theorem dX4_letHoursGoBy_40 : decode cX4_letHoursGoBy 40 = .ok (.istore 7, 2) := by decide +kernel
theorem dX4_letHoursGoBy_42 : decode cX4_letHoursGoBy 42 = .ok (.iload 5, 2) := by decide +kernel
theorem dX4_letHoursGoBy_44 : decode cX4_letHoursGoBy 44 = .ok (.ifCond .ne 13, 3) := by decide +kernel
theorem dX4_letHoursGoBy_47 : decode cX4_letHoursGoBy 47 = .ok (.iload 6, 2) := by decide +kernel
theorem dX4_letHoursGoBy_49 : decode cX4_letHoursGoBy 49 = .ok (.ifCond .ne 8, 3) := by decide +kernel
theorem dX4_letHoursGoBy_52 : decode cX4_letHoursGoBy 52 = .ok (.iload 7, 2) := by decide +kernel
theorem dX4_letHoursGoBy_54 : decode cX4_letHoursGoBy 54 = .ok (.ifCond .eq 7, 3) := by decide +kernel
theorem dX4_letHoursGoBy_57 : decode cX4_letHoursGoBy 57 = .ok (.iconst 1, 1) := by decide +kernel
theorem dX4_letHoursGoBy_58 : decode cX4_letHoursGoBy 58 = .ok (.goto 4, 3) := by decide +kernel
theorem dX4_letHoursGoBy_61 : decode cX4_letHoursGoBy 61 = .ok (.iconst 0, 1) := by decide +kernel
theorem dX4_letHoursGoBy_62 : decode cX4_letHoursGoBy 62 = .ok (.istore_n 3, 1) := by decide +kernel
theorem dX4_letHoursGoBy_63 : decode cX4_letHoursGoBy 63 = .ok (.aload_n 0, 1) := by decide +kernel
theorem dX4_letHoursGoBy_64 : decode cX4_letHoursGoBy 64 = .ok (.dup, 1) := by decide +kernel
theorem dX4_letHoursGoBy_65 : decode cX4_letHoursGoBy 65 = .ok (.getfield 70, 3) := by decide +kernel
theorem dX4_letHoursGoBy_68 : decode cX4_letHoursGoBy 68 = .ok (.iconst 1, 1) := by decide +kernel
theorem dX4_letHoursGoBy_69 : decode cX4_letHoursGoBy 69 = .ok (.iadd, 1) := by decide +kernel
theorem dX4_letHoursGoBy_70 : decode cX4_letHoursGoBy 70 = .ok (.putfield 70, 3) := by decide +kernel
theorem dX4_letHoursGoBy_73 : decode cX4_letHoursGoBy 73 = .ok (.iinc 4 1, 3) := by decide +kernel
theorem dX4_letHoursGoBy_76 : decode cX4_letHoursGoBy 76 = .ok (.goto (-62), 3) := by decide +kernel
theorem dX4_letHoursGoBy_79 : decode cX4_letHoursGoBy 79 = .ok (.aload_n 0, 1) := by decide +kernel
theorem dX4_letHoursGoBy_80 : decode cX4_letHoursGoBy 80 = .ok (.getfield 28, 3) := by decide +kernel
theorem dX4_letHoursGoBy_83 : decode cX4_letHoursGoBy 83 = .ok (.iconst 2, 1) := by decide +kernel
theorem dX4_letHoursGoBy_84 : decode cX4_letHoursGoBy 84 = .ok (.invokevirtual 57, 3) := by decide +kernel
theorem dX4_letHoursGoBy_87 : decode cX4_letHoursGoBy 87 = .ok (.iload_n 2, 1) := by decide +kernel
theorem dX4_letHoursGoBy_88 : decode cX4_letHoursGoBy 88 = .ok (.isub, 1) := by decide +kernel
theorem dX4_letHoursGoBy_89 : decode cX4_letHoursGoBy 89 = .ok (.ireturn, 1) := by decide +kernel
set_option maxRecDepth 20000 in
theorem ggX4_bringMules_X2_isUnderWay : GoodIn wsX4_bringMules wsX2_isUnderWay := goodIn_r _ [6, 7, 8, 9, 10, 11, 12, 13, 55, 56, 57, 58, 59, 60, 61] (by decide +kernel) (by decide +kernel)
set_option maxRecDepth 20000 in
theorem gX4_bringMules_X2_isUnderWay : GoodIn wsX4_bringMules (wsV RX4 77 RX2 yX2_isUnderWay wsX2_isUnderWay) := goodIn_app (goodIn_of _ (by decide +kernel)) ggX4_bringMules_X2_isUnderWay
set_option maxRecDepth 20000 in
theorem ggX4_bringMules_X3_get : GoodIn wsX4_bringMules wsX3_get := goodIn_r _ [12, 13, 61] (by decide +kernel) (by decide +kernel)
set_option maxRecDepth 20000 in
theorem gX4_bringMules_X3_get : GoodIn wsX4_bringMules (wsV RX4 84 RX3 yX3_get wsX3_get) := goodIn_app (goodIn_of _ (by decide +kernel)) ggX4_bringMules_X3_get
set_option maxRecDepth 20000 in
theorem ggX4_bringMules_X3_set : GoodIn wsX4_bringMules wsX3_set := goodIn_r _ [18, 13, 61] (by decide +kernel) (by decide +kernel)
set_option maxRecDepth 20000 in
theorem gX4_bringMules_X3_set : GoodIn wsX4_bringMules (wsV RX4 87 RX3 yX3_set wsX3_set) := goodIn_app (goodIn_of _ (by decide +kernel)) ggX4_bringMules_X3_set
set_option maxRecDepth 20000 in
theorem ggX4_bringMules_X4_unload : GoodIn wsX4_bringMules wsX4_unload := goodIn_r _ [23, 24, 1, 25, 26, 27, 28, 29, 30, 31, 32, 33, 9, 10, 11, 12, 13, 14, 34, 35, 36, 37, 38, 39, 40, 41, 16, 17, 18, 42, 43, 44, 45, 46, 47, 48, 49, 50, 51, 52, 53, 54, 62, 63, 64, 65, 66, 67, 68, 69, 70, 71, 72, 73, 55, 56, 57, 58, 59, 60, 61] (by decide +kernel) (by decide +kernel)
set_option maxRecDepth 20000 in
theorem gX4_bringMules_X4_unload : GoodIn wsX4_bringMules (wsV RX4 94 RX4 yX4_unload wsX4_unload) := goodIn_app (goodIn_of _ (by decide +kernel)) ggX4_bringMules_X4_unload
theorem dX4_bringMules_0 : decode cX4_bringMules 0 = .ok (.iconst 0, 1) := by decide +kernel
theorem dX4_bringMules_1 : decode cX4_bringMules 1 = .ok (.istore_n 1, 1) := by decide +kernel
theorem dX4_bringMules_2 : decode cX4_bringMules 2 = .ok (.iconst 0, 1) := by decide +kernel
theorem dX4_bringMules_3 : decode cX4_bringMules 3 = .ok (.istore_n 2, 1) := by decide +kernel
theorem dX4_bringMules_4 : decode cX4_bringMules 4 = .ok (.iload_n 2, 1) := by decide +kernel
theorem dX4_bringMules_5 : decode cX4_bringMules 5 = .ok (.aload_n 0, 1) := by decide +kernel
theorem dX4_bringMules_6 : decode cX4_bringMules 6 = .ok (.getfield 21, 3) := by decide +kernel
theorem dX4_bringMules_9 : decode cX4_bringMules 9 = .ok (.getfield 74, 3) := by decide +kernel
theorem dX4_bringMules_12 : decode cX4_bringMules 12 = .ok (.if_icmp .ge 86, 3) := by decide +kernel
theorem dX4_bringMules_15 : decode cX4_bringMules 15 = .ok (.aload_n 0, 1) := by decide +kernel
theorem dX4_bringMules_16 : decode cX4_bringMules 16 = .ok (.getfield 21, 3) := by decide +kernel
theorem dX4_bringMules_19 : decode cX4_bringMules 19 = .ok (.iload_n 2, 1) := by decide +kernel
theorem dX4_bringMules_20 : decode cX4_bringMules 20 = .ok (.invokevirtual 77, 3) := by decide +kernel
theorem dX4_bringMules_23 : decode cX4_bringMules 23 = .ok (.ifCond .eq 69, 3) := by decide +kernel
theorem dX4_bringMules_26 : decode cX4_bringMules 26 = .ok (.iconst 1, 1) := by decide +kernel
theorem dX4_bringMules_27 : decode cX4_bringMules 27 = .ok (.istore_n 1, 1) := by decide +kernel
theorem dX4_bringMules_28 : decode cX4_bringMules 28 = .ok (.aload_n 0, 1) := by decide +kernel
theorem dX4_bringMules_29 : decode cX4_bringMules 29 = .ok (.getfield 21, 3) := by decide +kernel
theorem dX4_bringMules_32 : decode cX4_bringMules 32 = .ok (.getfield 81, 3) := by decide +kernel
theorem dX4_bringMules_35 : decode cX4_bringMules 35 = .ok (.iload_n 2, 1) := by decide +kernel
theorem dX4_bringMules_36 : decode cX4_bringMules 36 = .ok (.aload_n 0, 1) := by decide +kernel
theorem dX4_bringMules_37 : decode cX4_bringMules 37 = .ok (.getfield 21, 3) := by decide +kernel
theorem dX4_bringMules_40 : decode cX4_bringMules 40 = .ok (.getfield 81, 3) := by decide +kernel
theorem dX4_bringMules_43 : decode cX4_bringMules 43 = .ok (.iload_n 2, 1) := by decide +kernel
theorem dX4_bringMules_44 : decode cX4_bringMules 44 = .ok (.invokevirtual 84, 3) := by decide +kernel
theorem dX4_bringMules_47 : decode cX4_bringMules 47 = .ok (.iconst 1, 1) := by decide +kernel
theorem dX4_bringMules_48 : decode cX4_bringMules 48 = .ok (.isub, 1) := by decide +kernel
theorem dX4_bringMules_49 : decode cX4_bringMules 49 = .ok (.invokevirtual 87, 3) := by decide +kernel
theorem dX4_bringMules_52 : decode cX4_bringMules 52 = .ok (.aload_n 0, 1) := by decide +kernel
theorem dX4_bringMules_53 : decode cX4_bringMules 53 = .ok (.getfield 21, 3) := by decide +kernel
theorem dX4_bringMules_56 : decode cX4_bringMules 56 = .ok (.getfield 91, 3) := by decide +kernel
theorem dX4_bringMules_59 : decode cX4_bringMules 59 = .ok (.iload_n 2, 1) := by decide +kernel
theorem dX4_bringMules_60 : decode cX4_bringMules 60 = .ok (.aload_n 0, 1) := by decide +kernel
theorem dX4_bringMules_61 : decode cX4_bringMules 61 = .ok (.getfield 21, 3) := by decide +kernel
theorem dX4_bringMules_64 : decode cX4_bringMules 64 = .ok (.getfield 91, 3) := by decide +kernel
theorem dX4_bringMules_67 : decode cX4_bringMules 67 = .ok (.iload_n 2, 1) := by decide +kernel
theorem dX4_bringMules_68 : decode cX4_bringMules 68 = .ok (.invokevirtual 84, 3) := by decide +kernel
theorem dX4_bringMules_71 : decode cX4_bringMules 71 = .ok (.iconst 1, 1) := by decide +kernel
theorem dX4_bringMules_72 : decode cX4_bringMules 72 = .ok (.iadd, 1) := by decide +kernel
theorem dX4_bringMules_73 : decode cX4_bringMules 73 = .ok (.invokevirtual 87, 3) := by decide +kernel
theorem dX4_bringMules_76 : decode cX4_bringMules 76 = .ok (.aload_n 0, 1) := by decide +kernel
theorem dX4_bringMules_77 : decode cX4_bringMules 77 = .ok (.getfield 21, 3) := by decide +kernel
theorem dX4_bringMules_80 : decode cX4_bringMules 80 = .ok (.iload_n 2, 1) := by decide +kernel
theorem dX4_bringMules_81 : decode cX4_bringMules 81 = .ok (.invokevirtual 77, 3) := by decide +kernel
theorem dX4_bringMules_84 : decode cX4_bringMules 84 = .ok (.ifCond .ne 8, 3) := by decide +kernel
theorem dX4_bringMules_87 : decode cX4_bringMules 87 = .ok (.aload_n 0, 1) := by decide +kernel
theorem dX4_bringMules_88 : decode cX4_bringMules 88 = .ok (.iload_n 2, 1) := by decide +kernel
theorem dX4_bringMules_89 : decode cX4_bringMules 89 = .ok (.invokevirtual 94, 3) := by decide +kernel
theorem dX4_bringMules_92 : decode cX4_bringMules 92 = .ok (.iinc 2 1, 3) := by decide +kernel
theorem dX4_bringMules_95 : decode cX4_bringMules 95 = .ok (.goto (-91), 3) := by decide +kernel
theorem dX4_bringMules_98 : decode cX4_bringMules 98 = .ok (.iload_n 1, 1) := by decide +kernel
theorem dX4_bringMules_99 : decode cX4_bringMules 99 = .ok (.ireturn, 1) := by decide +kernel
set_option maxRecDepth 20000 in
theorem ggX4_unload_X1_isWith : GoodIn wsX4_unload wsX1_isWith := goodIn_r _ [8, 9, 10, 11, 12, 13, 14, 15, 16, 42, 43, 44, 45, 46, 47, 48, 49, 50, 51, 52, 53, 60] (by decide +kernel) (by decide +kernel)
set_option maxRecDepth 20000 in
theorem gX4_unload_X1_isWith : GoodIn wsX4_unload (wsV RX4 98 RX1 yX1_isWith wsX1_isWith) := goodIn_app (goodIn_of _ (by decide +kernel)) ggX4_unload_X1_isWith
set_option maxRecDepth 20000 in
theorem ggX4_unload_X3_get : GoodIn wsX4_unload wsX3_get := goodIn_r _ [15, 16, 60] (by decide +kernel) (by decide +kernel)
set_option maxRecDepth 20000 in
theorem gX4_unload_X3_get : GoodIn wsX4_unload (wsV RX4 84 RX3 yX3_get wsX3_get) := goodIn_app (goodIn_of _ (by decide +kernel)) ggX4_unload_X3_get
set_option maxRecDepth 20000 in
theorem ggX4_unload_X1_layDown : GoodIn wsX4_unload wsX1_layDown := goodIn_r _ [21, 22, 10, 9, 23, 24, 25, 26, 27, 14, 28, 16, 29, 30, 31, 7, 32, 33, 34, 11, 12, 13, 15, 42, 43, 44, 45, 46, 47, 48, 49, 50, 51, 52, 53, 60] (by decide +kernel) (by decide +kernel)
set_option maxRecDepth 20000 in
theorem gX4_unload_X1_layDown : GoodIn wsX4_unload (wsV RX4 105 RX1 yX1_layDown wsX1_layDown) := goodIn_app (goodIn_of _ (by decide +kernel)) ggX4_unload_X1_layDown
theorem dX4_unload_0 : decode cX4_unload 0 = .ok (.iconst 0, 1) := by decide +kernel
theorem dX4_unload_1 : decode cX4_unload 1 = .ok (.istore_n 2, 1) := by decide +kernel
theorem dX4_unload_2 : decode cX4_unload 2 = .ok (.iload_n 2, 1) := by decide +kernel
theorem dX4_unload_3 : decode cX4_unload 3 = .ok (.aload_n 0, 1) := by decide +kernel
theorem dX4_unload_4 : decode cX4_unload 4 = .ok (.getfield 28, 3) := by decide +kernel
theorem dX4_unload_7 : decode cX4_unload 7 = .ok (.getfield 97, 3) := by decide +kernel
theorem dX4_unload_10 : decode cX4_unload 10 = .ok (.if_icmp .ge 44, 3) := by decide +kernel
theorem dX4_unload_13 : decode cX4_unload 13 = .ok (.aload_n 0, 1) := by decide +kernel
theorem dX4_unload_14 : decode cX4_unload 14 = .ok (.getfield 28, 3) := by decide +kernel
theorem dX4_unload_17 : decode cX4_unload 17 = .ok (.iload_n 2, 1) := by decide +kernel
theorem dX4_unload_18 : decode cX4_unload 18 = .ok (.iload_n 1, 1) := by decide +kernel
theorem dX4_unload_19 : decode cX4_unload 19 = .ok (.invokevirtual 98, 3) := by decide +kernel
theorem dX4_unload_22 : decode cX4_unload 22 = .ok (.ifCond .eq 26, 3) := by decide +kernel
theorem dX4_unload_25 : decode cX4_unload 25 = .ok (.aload_n 0, 1) := by decide +kernel
theorem dX4_unload_26 : decode cX4_unload 26 = .ok (.getfield 28, 3) := by decide +kernel
theorem dX4_unload_29 : decode cX4_unload 29 = .ok (.iload_n 2, 1) := by decide +kernel
theorem dX4_unload_30 : decode cX4_unload 30 = .ok (.aload_n 0, 1) := by decide +kernel
theorem dX4_unload_31 : decode cX4_unload 31 = .ok (.getfield 21, 3) := by decide +kernel
theorem dX4_unload_34 : decode cX4_unload 34 = .ok (.getfield 102, 3) := by decide +kernel
theorem dX4_unload_37 : decode cX4_unload 37 = .ok (.iload_n 1, 1) := by decide +kernel
theorem dX4_unload_38 : decode cX4_unload 38 = .ok (.invokevirtual 84, 3) := by decide +kernel
theorem dX4_unload_41 : decode cX4_unload 41 = .ok (.aload_n 0, 1) := by decide +kernel
theorem dX4_unload_42 : decode cX4_unload 42 = .ok (.getfield 70, 3) := by decide +kernel
theorem dX4_unload_45 : decode cX4_unload 45 = .ok (.invokevirtual 105, 3) := by decide +kernel
theorem dX4_unload_48 : decode cX4_unload 48 = .ok (.iinc 2 1, 3) := by decide +kernel
theorem dX4_unload_51 : decode cX4_unload 51 = .ok (.goto (-49), 3) := by decide +kernel
theorem dX4_unload_54 : decode cX4_unload 54 = .ok (.return_, 1) := by decide +kernel
set_option maxRecDepth 20000 in
theorem ggX4_spreadFires_X1_isRecalled : GoodIn wsX4_spreadFires wsX1_isRecalled := goodIn_r _ [8, 9, 10, 11, 12, 13, 14, 15, 60, 61, 62, 63, 64, 65, 66, 67, 68, 69, 70, 71, 72] (by decide +kernel) (by decide +kernel)
set_option maxRecDepth 20000 in
theorem gX4_spreadFires_X1_isRecalled : GoodIn wsX4_spreadFires (wsV RX4 109 RX1 yX1_isRecalled wsX1_isRecalled) := goodIn_app (goodIn_of _ (by decide +kernel)) ggX4_spreadFires_X1_isRecalled
set_option maxRecDepth 20000 in
theorem ggX4_spreadFires_X3_get : GoodIn wsX4_spreadFires wsX3_get := goodIn_r _ [14, 15, 72] (by decide +kernel) (by decide +kernel)
set_option maxRecDepth 20000 in
theorem gX4_spreadFires_X3_get : GoodIn wsX4_spreadFires (wsV RX4 84 RX3 yX3_get wsX3_get) := goodIn_app (goodIn_of _ (by decide +kernel)) ggX4_spreadFires_X3_get
set_option maxRecDepth 20000 in
theorem ggX4_spreadFires_X0_litNext : GoodIn wsX4_spreadFires wsX0_litNext := goodIn_r _ [21, 22, 23, 24, 25, 26, 27, 28, 11, 12, 13, 14, 15, 73, 74, 75, 76, 77, 78, 79, 80, 72] (by decide +kernel) (by decide +kernel)
set_option maxRecDepth 20000 in
theorem gX4_spreadFires_X0_litNext : GoodIn wsX4_spreadFires (wsV RX4 115 RX0 yX0_litNext wsX0_litNext) := goodIn_app (goodIn_of _ (by decide +kernel)) ggX4_spreadFires_X0_litNext
set_option maxRecDepth 20000 in
theorem ggX4_spreadFires_X6_has : GoodIn wsX4_spreadFires wsX6_has := goodIn_r _ [27] (by decide +kernel) (by decide +kernel)
set_option maxRecDepth 20000 in
theorem gX4_spreadFires_X6_has_n127 : GoodIn wsX4_spreadFires (wsX6_has) := ggX4_spreadFires_X6_has
set_option maxRecDepth 20000 in
theorem ggX4_spreadFires_X3_set : GoodIn wsX4_spreadFires wsX3_set := goodIn_r _ [32, 15, 72] (by decide +kernel) (by decide +kernel)
set_option maxRecDepth 20000 in
theorem gX4_spreadFires_X3_set : GoodIn wsX4_spreadFires (wsV RX4 87 RX3 yX3_set wsX3_set) := goodIn_app (goodIn_of _ (by decide +kernel)) ggX4_spreadFires_X3_set
set_option maxRecDepth 20000 in
theorem ggX4_spreadFires_X1_turn : GoodIn wsX4_spreadFires wsX1_turn := goodIn_r _ [36, 37, 38, 39, 30, 31, 13, 32, 15, 10, 11, 12, 14, 40, 41, 42, 7, 43, 44, 45, 46, 47, 48, 49, 50, 51, 52, 60, 61, 62, 63, 64, 65, 66, 67, 68, 69, 70, 71, 72] (by decide +kernel) (by decide +kernel)
set_option maxRecDepth 20000 in
theorem gX4_spreadFires_X1_turn : GoodIn wsX4_spreadFires (wsV RX4 130 RX1 yX1_turn wsX1_turn) := goodIn_app (goodIn_of _ (by decide +kernel)) ggX4_spreadFires_X1_turn
theorem dX4_spreadFires_0 : decode cX4_spreadFires 0 = .ok (.iconst 0, 1) := by decide +kernel
theorem dX4_spreadFires_1 : decode cX4_spreadFires 1 = .ok (.istore_n 1, 1) := by decide +kernel
theorem dX4_spreadFires_2 : decode cX4_spreadFires 2 = .ok (.iconst 0, 1) := by decide +kernel
theorem dX4_spreadFires_3 : decode cX4_spreadFires 3 = .ok (.istore_n 2, 1) := by decide +kernel
theorem dX4_spreadFires_4 : decode cX4_spreadFires 4 = .ok (.iload_n 2, 1) := by decide +kernel
theorem dX4_spreadFires_5 : decode cX4_spreadFires 5 = .ok (.aload_n 0, 1) := by decide +kernel
theorem dX4_spreadFires_6 : decode cX4_spreadFires 6 = .ok (.getfield 28, 3) := by decide +kernel
theorem dX4_spreadFires_9 : decode cX4_spreadFires 9 = .ok (.getfield 97, 3) := by decide +kernel
theorem dX4_spreadFires_12 : decode cX4_spreadFires 12 = .ok (.if_icmp .ge 147, 3) := by decide +kernel
theorem dX4_spreadFires_15 : decode cX4_spreadFires 15 = .ok (.aload_n 0, 1) := by decide +kernel
theorem dX4_spreadFires_16 : decode cX4_spreadFires 16 = .ok (.getfield 28, 3) := by decide +kernel
theorem dX4_spreadFires_19 : decode cX4_spreadFires 19 = .ok (.iload_n 2, 1) := by decide +kernel
theorem dX4_spreadFires_20 : decode cX4_spreadFires 20 = .ok (.invokevirtual 109, 3) := by decide +kernel
theorem dX4_spreadFires_23 : decode cX4_spreadFires 23 = .ok (.ifCond .eq 130, 3) := by decide +kernel
theorem dX4_spreadFires_26 : decode cX4_spreadFires 26 = .ok (.aload_n 0, 1) := by decide +kernel
theorem dX4_spreadFires_27 : decode cX4_spreadFires 27 = .ok (.getfield 28, 3) := by decide +kernel
theorem dX4_spreadFires_30 : decode cX4_spreadFires 30 = .ok (.getfield 112, 3) := by decide +kernel
theorem dX4_spreadFires_33 : decode cX4_spreadFires 33 = .ok (.iload_n 2, 1) := by decide +kernel
theorem dX4_spreadFires_34 : decode cX4_spreadFires 34 = .ok (.invokevirtual 84, 3) := by decide +kernel
theorem dX4_spreadFires_37 : decode cX4_spreadFires 37 = .ok (.istore_n 3, 1) := by decide +kernel
theorem dX4_spreadFires_38 : decode cX4_spreadFires 38 = .ok (.aload_n 0, 1) := by decide +kernel
theorem dX4_spreadFires_39 : decode cX4_spreadFires 39 = .ok (.getfield 41, 3) := by decide +kernel
theorem dX4_spreadFires_42 : decode cX4_spreadFires 42 = .ok (.iload_n 3, 1) := by decide +kernel
theorem dX4_spreadFires_43 : decode cX4_spreadFires 43 = .ok (.invokevirtual 115, 3) := by decide +kernel
theorem dX4_spreadFires_46 : decode cX4_spreadFires 46 = .ok (.istore 4, 2) := by decide +kernel
theorem dX4_spreadFires_48 : decode cX4_spreadFires 48 = .ok (.aload_n 0, 1) := by decide +kernel
theorem dX4_spreadFires_49 : decode cX4_spreadFires 49 = .ok (.getfield 28, 3) := by decide +kernel
theorem dX4_spreadFires_52 : decode cX4_spreadFires 52 = .ok (.getfield 120, 3) := by decide +kernel
theorem dX4_spreadFires_55 : decode cX4_spreadFires 55 = .ok (.iload_n 2, 1) := by decide +kernel
theorem dX4_spreadFires_56 : decode cX4_spreadFires 56 = .ok (.invokevirtual 84, 3) := by decide +kernel
theorem dX4_spreadFires_59 : decode cX4_spreadFires 59 = .ok (.ifCond .ne 40, 3) := by decide +kernel
theorem dX4_spreadFires_62 : decode cX4_spreadFires 62 = .ok (.aload_n 0, 1) := by decide +kernel
theorem dX4_spreadFires_63 : decode cX4_spreadFires 63 = .ok (.getfield 28, 3) := by decide +kernel
theorem dX4_spreadFires_66 : decode cX4_spreadFires 66 = .ok (.getfield 123, 3) := by decide +kernel
theorem dX4_spreadFires_69 : decode cX4_spreadFires 69 = .ok (.iload_n 2, 1) := by decide +kernel
theorem dX4_spreadFires_70 : decode cX4_spreadFires 70 = .ok (.invokevirtual 84, 3) := by decide +kernel
theorem dX4_spreadFires_73 : decode cX4_spreadFires 73 = .ok (.ifCond .ne 26, 3) := by decide +kernel
theorem dX4_spreadFires_76 : decode cX4_spreadFires 76 = .ok (.iload 4, 2) := by decide +kernel
theorem dX4_spreadFires_78 : decode cX4_spreadFires 78 = .ok (.aload_n 0, 1) := by decide +kernel
theorem dX4_spreadFires_79 : decode cX4_spreadFires 79 = .ok (.getfield 28, 3) := by decide +kernel
theorem dX4_spreadFires_82 : decode cX4_spreadFires 82 = .ok (.getfield 126, 3) := by decide +kernel
theorem dX4_spreadFires_85 : decode cX4_spreadFires 85 = .ok (.iload_n 2, 1) := by decide +kernel
theorem dX4_spreadFires_86 : decode cX4_spreadFires 86 = .ok (.invokevirtual 84, 3) := by decide +kernel
theorem dX4_spreadFires_89 : decode cX4_spreadFires 89 = .ok (.invokestatic 127, 3) := by decide +kernel
theorem dX4_spreadFires_92 : decode cX4_spreadFires 92 = .ok (.ifCond .eq 7, 3) := by decide +kernel
theorem dX4_spreadFires_95 : decode cX4_spreadFires 95 = .ok (.iconst 1, 1) := by decide +kernel
theorem dX4_spreadFires_96 : decode cX4_spreadFires 96 = .ok (.goto 4, 3) := by decide +kernel
theorem dX4_spreadFires_99 : decode cX4_spreadFires 99 = .ok (.iconst 0, 1) := by decide +kernel
theorem dX4_spreadFires_100 : decode cX4_spreadFires 100 = .ok (.istore 5, 2) := by decide +kernel
theorem dX4_spreadFires_102 : decode cX4_spreadFires 102 = .ok (.aload_n 0, 1) := by decide +kernel
theorem dX4_spreadFires_103 : decode cX4_spreadFires 103 = .ok (.getfield 28, 3) := by decide +kernel
theorem dX4_spreadFires_106 : decode cX4_spreadFires 106 = .ok (.getfield 112, 3) := by decide +kernel
theorem dX4_spreadFires_109 : decode cX4_spreadFires 109 = .ok (.iload_n 2, 1) := by decide +kernel
theorem dX4_spreadFires_110 : decode cX4_spreadFires 110 = .ok (.iload 4, 2) := by decide +kernel
theorem dX4_spreadFires_112 : decode cX4_spreadFires 112 = .ok (.invokevirtual 87, 3) := by decide +kernel
theorem dX4_spreadFires_115 : decode cX4_spreadFires 115 = .ok (.iload 5, 2) := by decide +kernel
theorem dX4_spreadFires_117 : decode cX4_spreadFires 117 = .ok (.ifCond .eq 15, 3) := by decide +kernel
theorem dX4_spreadFires_120 : decode cX4_spreadFires 120 = .ok (.aload_n 0, 1) := by decide +kernel
theorem dX4_spreadFires_121 : decode cX4_spreadFires 121 = .ok (.getfield 28, 3) := by decide +kernel
theorem dX4_spreadFires_124 : decode cX4_spreadFires 124 = .ok (.iload_n 2, 1) := by decide +kernel
theorem dX4_spreadFires_125 : decode cX4_spreadFires 125 = .ok (.aload_n 0, 1) := by decide +kernel
theorem dX4_spreadFires_126 : decode cX4_spreadFires 126 = .ok (.getfield 70, 3) := by decide +kernel
theorem dX4_spreadFires_129 : decode cX4_spreadFires 129 = .ok (.invokevirtual 130, 3) := by decide +kernel
theorem dX4_spreadFires_132 : decode cX4_spreadFires 132 = .ok (.iload_n 1, 1) := by decide +kernel
theorem dX4_spreadFires_133 : decode cX4_spreadFires 133 = .ok (.ifCond .ne 14, 3) := by decide +kernel
theorem dX4_spreadFires_136 : decode cX4_spreadFires 136 = .ok (.iload 5, 2) := by decide +kernel
theorem dX4_spreadFires_138 : decode cX4_spreadFires 138 = .ok (.ifCond .ne 9, 3) := by decide +kernel
theorem dX4_spreadFires_141 : decode cX4_spreadFires 141 = .ok (.iload 4, 2) := by decide +kernel
theorem dX4_spreadFires_143 : decode cX4_spreadFires 143 = .ok (.iload_n 3, 1) := by decide +kernel
theorem dX4_spreadFires_144 : decode cX4_spreadFires 144 = .ok (.if_icmp .eq 7, 3) := by decide +kernel
theorem dX4_spreadFires_147 : decode cX4_spreadFires 147 = .ok (.iconst 1, 1) := by decide +kernel
theorem dX4_spreadFires_148 : decode cX4_spreadFires 148 = .ok (.goto 4, 3) := by decide +kernel
theorem dX4_spreadFires_151 : decode cX4_spreadFires 151 = .ok (.iconst 0, 1) := by decide +kernel
theorem dX4_spreadFires_152 : decode cX4_spreadFires 152 = .ok (.istore_n 1, 1) := by decide +kernel
theorem dX4_spreadFires_153 : decode cX4_spreadFires 153 = .ok (.iinc 2 1, 3) := by decide +kernel
theorem dX4_spreadFires_156 : decode cX4_spreadFires 156 = .ok (.goto (-152), 3) := by decide +kernel
theorem dX4_spreadFires_159 : decode cX4_spreadFires 159 = .ok (.iload_n 1, 1) := by decide +kernel
theorem dX4_spreadFires_160 : decode cX4_spreadFires 160 = .ok (.ireturn, 1) := by decide +kernel
set_option maxRecDepth 20000 in
theorem ggX4_sendMules_X4_findNextRoads : GoodIn wsX4_sendMules wsX4_findNextRoads := goodIn_r _ [6, 7, 8, 9, 10, 11, 12, 13, 14, 15, 16, 17, 5, 18, 19, 20, 21, 22, 23, 24, 25, 26, 27, 28, 29, 30, 31, 32, 33, 34, 35, 36, 37, 38, 39, 40, 41, 42, 112, 113, 114, 115, 116, 117, 118, 125, 126, 127, 128, 129, 130, 131, 132, 133, 134, 135, 136, 137, 138, 139] (by decide +kernel) (by decide +kernel)
set_option maxRecDepth 20000 in
theorem gX4_sendMules_X4_findNextRoads : GoodIn wsX4_sendMules (wsV RX4 133 RX4 yX4_findNextRoads wsX4_findNextRoads) := goodIn_app (goodIn_of _ (by decide +kernel)) ggX4_sendMules_X4_findNextRoads
set_option maxRecDepth 20000 in
theorem ggX4_sendMules_X2_isUnderWay : GoodIn wsX4_sendMules wsX2_isUnderWay := goodIn_r _ [47, 48, 49, 10, 11, 12, 13, 14, 119, 120, 121, 122, 123, 124, 137] (by decide +kernel) (by decide +kernel)
set_option maxRecDepth 20000 in
theorem gX4_sendMules_X2_isUnderWay : GoodIn wsX4_sendMules (wsV RX4 77 RX2 yX2_isUnderWay wsX2_isUnderWay) := goodIn_app (goodIn_of _ (by decide +kernel)) ggX4_sendMules_X2_isUnderWay
set_option maxRecDepth 20000 in
theorem ggX4_sendMules_X3_get : GoodIn wsX4_sendMules wsX3_get := goodIn_r _ [13, 14, 137] (by decide +kernel) (by decide +kernel)
set_option maxRecDepth 20000 in
theorem gX4_sendMules_X3_get : GoodIn wsX4_sendMules (wsV RX4 84 RX3 yX3_get wsX3_get) := goodIn_app (goodIn_of _ (by decide +kernel)) ggX4_sendMules_X3_get
set_option maxRecDepth 20000 in
theorem ggX4_sendMules_X6_has : GoodIn wsX4_sendMules wsX6_has := goodIn_r _ [51] (by decide +kernel) (by decide +kernel)
set_option maxRecDepth 20000 in
theorem gX4_sendMules_X6_has_n127 : GoodIn wsX4_sendMules (wsX6_has) := ggX4_sendMules_X6_has
set_option maxRecDepth 20000 in
theorem ggX4_sendMules_X4_loadOrHearCall : GoodIn wsX4_sendMules wsX4_loadOrHearCall := goodIn_r _ [55, 1, 7, 8, 9, 10, 11, 12, 13, 14, 56, 57, 58, 23, 59, 60, 61, 62, 63, 37, 38, 39, 36, 112, 113, 114, 115, 116, 117, 118, 119, 120, 121, 122, 123, 124, 125, 126, 127, 128, 129, 130, 131, 132, 133, 134, 135, 136, 137] (by decide +kernel) (by decide +kernel)
set_option maxRecDepth 20000 in
theorem gX4_sendMules_X4_loadOrHearCall : GoodIn wsX4_sendMules (wsV RX4 140 RX4 yX4_loadOrHearCall wsX4_loadOrHearCall) := goodIn_app (goodIn_of _ (by decide +kernel)) ggX4_sendMules_X4_loadOrHearCall
set_option maxRecDepth 20000 in
theorem ggX4_sendMules_X4_setOut : GoodIn wsX4_sendMules wsX4_setOut := goodIn_r _ [67, 1, 68, 69, 9, 10, 11, 12, 13, 14, 70, 71, 72, 73, 74, 75, 76, 77, 36, 37, 38, 39, 78, 79, 80, 81, 82, 83, 84, 85, 86, 87, 88, 89, 90, 46, 91, 92, 93, 49, 94, 44, 45, 47, 48, 95, 96, 97, 5, 98, 7, 99, 100, 101, 23, 102, 60, 62, 28, 103, 104, 105, 106, 26, 27, 107, 108, 109, 110, 111, 112, 113, 114, 115, 116, 117, 118, 119, 120, 121, 122, 123, 124, 137, 140, 141, 142, 143, 144, 145, 146, 147, 125, 126, 127, 128, 129, 130, 131, 132, 133, 134, 135, 136] (by decide +kernel) (by decide +kernel)
set_option maxRecDepth 20000 in
theorem gX4_sendMules_X4_setOut : GoodIn wsX4_sendMules (wsV RX4 143 RX4 yX4_setOut wsX4_setOut) := goodIn_app (goodIn_of _ (by decide +kernel)) ggX4_sendMules_X4_setOut
theorem dX4_sendMules_0 : decode cX4_sendMules 0 = .ok (.iconst 0, 1) := by decide +kernel
theorem dX4_sendMules_1 : decode cX4_sendMules 1 = .ok (.istore_n 1, 1) := by decide +kernel
theorem dX4_sendMules_2 : decode cX4_sendMules 2 = .ok (.aload_n 0, 1) := by decide +kernel
theorem dX4_sendMules_3 : decode cX4_sendMules 3 = .ok (.invokevirtual 133, 3) := by decide +kernel
theorem dX4_sendMules_6 : decode cX4_sendMules 6 = .ok (.istore_n 2, 1) := by decide +kernel
theorem dX4_sendMules_7 : decode cX4_sendMules 7 = .ok (.iconst 0, 1) := by decide +kernel
theorem dX4_sendMules_8 : decode cX4_sendMules 8 = .ok (.istore_n 3, 1) := by decide +kernel
theorem dX4_sendMules_9 : decode cX4_sendMules 9 = .ok (.iload_n 3, 1) := by decide +kernel
theorem dX4_sendMules_10 : decode cX4_sendMules 10 = .ok (.aload_n 0, 1) := by decide +kernel
theorem dX4_sendMules_11 : decode cX4_sendMules 11 = .ok (.getfield 21, 3) := by decide +kernel
theorem dX4_sendMules_14 : decode cX4_sendMules 14 = .ok (.getfield 74, 3) := by decide +kernel
theorem dX4_sendMules_17 : decode cX4_sendMules 17 = .ok (.if_icmp .ge 53, 3) := by decide +kernel
theorem dX4_sendMules_20 : decode cX4_sendMules 20 = .ok (.aload_n 0, 1) := by decide +kernel
theorem dX4_sendMules_21 : decode cX4_sendMules 21 = .ok (.getfield 21, 3) := by decide +kernel
theorem dX4_sendMules_24 : decode cX4_sendMules 24 = .ok (.iload_n 3, 1) := by decide +kernel
theorem dX4_sendMules_25 : decode cX4_sendMules 25 = .ok (.invokevirtual 77, 3) := by decide +kernel
theorem dX4_sendMules_28 : decode cX4_sendMules 28 = .ok (.ifCond .ne 36, 3) := by decide +kernel
theorem dX4_sendMules_31 : decode cX4_sendMules 31 = .ok (.iload_n 2, 1) := by decide +kernel
theorem dX4_sendMules_32 : decode cX4_sendMules 32 = .ok (.aload_n 0, 1) := by decide +kernel
theorem dX4_sendMules_33 : decode cX4_sendMules 33 = .ok (.getfield 21, 3) := by decide +kernel
theorem dX4_sendMules_36 : decode cX4_sendMules 36 = .ok (.getfield 137, 3) := by decide +kernel
theorem dX4_sendMules_39 : decode cX4_sendMules 39 = .ok (.iload_n 3, 1) := by decide +kernel
theorem dX4_sendMules_40 : decode cX4_sendMules 40 = .ok (.invokevirtual 84, 3) := by decide +kernel
theorem dX4_sendMules_43 : decode cX4_sendMules 43 = .ok (.invokestatic 127, 3) := by decide +kernel
theorem dX4_sendMules_46 : decode cX4_sendMules 46 = .ok (.ifCond .eq 18, 3) := by decide +kernel
theorem dX4_sendMules_49 : decode cX4_sendMules 49 = .ok (.aload_n 0, 1) := by decide +kernel
theorem dX4_sendMules_50 : decode cX4_sendMules 50 = .ok (.iload_n 3, 1) := by decide +kernel
theorem dX4_sendMules_51 : decode cX4_sendMules 51 = .ok (.invokevirtual 140, 3) := by decide +kernel
theorem dX4_sendMules_54 : decode cX4_sendMules 54 = .ok (.ifCond .eq 10, 3) := by decide +kernel
theorem dX4_sendMules_57 : decode cX4_sendMules 57 = .ok (.aload_n 0, 1) := by decide +kernel
theorem dX4_sendMules_58 : decode cX4_sendMules 58 = .ok (.iload_n 3, 1) := by decide +kernel
theorem dX4_sendMules_59 : decode cX4_sendMules 59 = .ok (.invokevirtual 143, 3) := by decide +kernel
theorem dX4_sendMules_62 : decode cX4_sendMules 62 = .ok (.iconst 1, 1) := by decide +kernel
theorem dX4_sendMules_63 : decode cX4_sendMules 63 = .ok (.istore_n 1, 1) := by decide +kernel
theorem dX4_sendMules_64 : decode cX4_sendMules 64 = .ok (.iinc 3 1, 3) := by decide +kernel
theorem dX4_sendMules_67 : decode cX4_sendMules 67 = .ok (.goto (-58), 3) := by decide +kernel
theorem dX4_sendMules_70 : decode cX4_sendMules 70 = .ok (.iload_n 1, 1) := by decide +kernel
theorem dX4_sendMules_71 : decode cX4_sendMules 71 = .ok (.ireturn, 1) := by decide +kernel
set_option maxRecDepth 20000 in
theorem ggX4_findNextRoads_X3_get : GoodIn wsX4_findNextRoads wsX3_get := goodIn_r _ [7, 8, 57] (by decide +kernel) (by decide +kernel)
set_option maxRecDepth 20000 in
theorem gX4_findNextRoads_X3_get : GoodIn wsX4_findNextRoads (wsV RX4 84 RX3 yX3_get wsX3_get) := goodIn_app (goodIn_of _ (by decide +kernel)) ggX4_findNextRoads_X3_get
set_option maxRecDepth 20000 in
theorem ggX4_findNextRoads_X4_firstRoadOf : GoodIn wsX4_findNextRoads wsX4_firstRoadOf := goodIn_r _ [13, 14, 1, 3, 4, 5, 6, 7, 8, 15, 16, 17, 18, 19, 20, 21, 22, 23, 24, 25, 26, 27, 28, 29, 30, 38, 39, 40, 41, 42, 43, 44, 45, 46, 47, 48, 49, 50, 51, 52, 53, 54, 55, 56, 57, 58, 59] (by decide +kernel) (by decide +kernel)
set_option maxRecDepth 20000 in
theorem gX4_findNextRoads_X4_firstRoadOf : GoodIn wsX4_findNextRoads (wsV RX4 146 RX4 yX4_firstRoadOf wsX4_firstRoadOf) := goodIn_app (goodIn_of _ (by decide +kernel)) ggX4_findNextRoads_X4_firstRoadOf
set_option maxRecDepth 20000 in
theorem ggX4_findNextRoads_X3_set : GoodIn wsX4_findNextRoads wsX3_set := goodIn_r _ [34, 8, 57] (by decide +kernel) (by decide +kernel)
set_option maxRecDepth 20000 in
theorem gX4_findNextRoads_X3_set : GoodIn wsX4_findNextRoads (wsV RX4 87 RX3 yX3_set wsX3_set) := goodIn_app (goodIn_of _ (by decide +kernel)) ggX4_findNextRoads_X3_set
set_option maxRecDepth 20000 in
theorem ggX4_findNextRoads_X6_with : GoodIn wsX4_findNextRoads wsX6_with := goodIn_r _ [37] (by decide +kernel) (by decide +kernel)
set_option maxRecDepth 20000 in
theorem gX4_findNextRoads_X6_with_n149 : GoodIn wsX4_findNextRoads (wsX6_with) := ggX4_findNextRoads_X6_with
theorem dX4_findNextRoads_0 : decode cX4_findNextRoads 0 = .ok (.iconst 0, 1) := by decide +kernel
theorem dX4_findNextRoads_1 : decode cX4_findNextRoads 1 = .ok (.istore_n 1, 1) := by decide +kernel
theorem dX4_findNextRoads_2 : decode cX4_findNextRoads 2 = .ok (.iconst 0, 1) := by decide +kernel
theorem dX4_findNextRoads_3 : decode cX4_findNextRoads 3 = .ok (.istore_n 2, 1) := by decide +kernel
theorem dX4_findNextRoads_4 : decode cX4_findNextRoads 4 = .ok (.iload_n 2, 1) := by decide +kernel
theorem dX4_findNextRoads_5 : decode cX4_findNextRoads 5 = .ok (.aload_n 0, 1) := by decide +kernel
theorem dX4_findNextRoads_6 : decode cX4_findNextRoads 6 = .ok (.getfield 28, 3) := by decide +kernel
theorem dX4_findNextRoads_9 : decode cX4_findNextRoads 9 = .ok (.getfield 97, 3) := by decide +kernel
theorem dX4_findNextRoads_12 : decode cX4_findNextRoads 12 = .ok (.if_icmp .ge 57, 3) := by decide +kernel
theorem dX4_findNextRoads_15 : decode cX4_findNextRoads 15 = .ok (.aload_n 0, 1) := by decide +kernel
theorem dX4_findNextRoads_16 : decode cX4_findNextRoads 16 = .ok (.getfield 28, 3) := by decide +kernel
theorem dX4_findNextRoads_19 : decode cX4_findNextRoads 19 = .ok (.getfield 120, 3) := by decide +kernel
theorem dX4_findNextRoads_22 : decode cX4_findNextRoads 22 = .ok (.iload_n 2, 1) := by decide +kernel
theorem dX4_findNextRoads_23 : decode cX4_findNextRoads 23 = .ok (.invokevirtual 84, 3) := by decide +kernel
theorem dX4_findNextRoads_26 : decode cX4_findNextRoads 26 = .ok (.ifCond .ne 11, 3) := by decide +kernel
theorem dX4_findNextRoads_29 : decode cX4_findNextRoads 29 = .ok (.aload_n 0, 1) := by decide +kernel
theorem dX4_findNextRoads_30 : decode cX4_findNextRoads 30 = .ok (.iload_n 2, 1) := by decide +kernel
theorem dX4_findNextRoads_31 : decode cX4_findNextRoads 31 = .ok (.invokevirtual 146, 3) := by decide +kernel
theorem dX4_findNextRoads_34 : decode cX4_findNextRoads 34 = .ok (.goto 4, 3) := by decide +kernel
theorem dX4_findNextRoads_37 : decode cX4_findNextRoads 37 = .ok (.iconst (-1), 1) := by decide +kernel
theorem dX4_findNextRoads_38 : decode cX4_findNextRoads 38 = .ok (.istore_n 3, 1) := by decide +kernel
theorem dX4_findNextRoads_39 : decode cX4_findNextRoads 39 = .ok (.aload_n 0, 1) := by decide +kernel
theorem dX4_findNextRoads_40 : decode cX4_findNextRoads 40 = .ok (.getfield 37, 3) := by decide +kernel
theorem dX4_findNextRoads_43 : decode cX4_findNextRoads 43 = .ok (.iload_n 2, 1) := by decide +kernel
theorem dX4_findNextRoads_44 : decode cX4_findNextRoads 44 = .ok (.iload_n 3, 1) := by decide +kernel
theorem dX4_findNextRoads_45 : decode cX4_findNextRoads 45 = .ok (.invokevirtual 87, 3) := by decide +kernel
theorem dX4_findNextRoads_48 : decode cX4_findNextRoads 48 = .ok (.iload_n 3, 1) := by decide +kernel
theorem dX4_findNextRoads_49 : decode cX4_findNextRoads 49 = .ok (.iconst (-1), 1) := by decide +kernel
theorem dX4_findNextRoads_50 : decode cX4_findNextRoads 50 = .ok (.if_icmp .ne 7, 3) := by decide +kernel
theorem dX4_findNextRoads_53 : decode cX4_findNextRoads 53 = .ok (.iload_n 1, 1) := by decide +kernel
theorem dX4_findNextRoads_54 : decode cX4_findNextRoads 54 = .ok (.goto 8, 3) := by decide +kernel
theorem dX4_findNextRoads_57 : decode cX4_findNextRoads 57 = .ok (.iload_n 1, 1) := by decide +kernel
theorem dX4_findNextRoads_58 : decode cX4_findNextRoads 58 = .ok (.iload_n 3, 1) := by decide +kernel
theorem dX4_findNextRoads_59 : decode cX4_findNextRoads 59 = .ok (.invokestatic 149, 3) := by decide +kernel
theorem dX4_findNextRoads_62 : decode cX4_findNextRoads 62 = .ok (.istore_n 1, 1) := by decide +kernel
theorem dX4_findNextRoads_63 : decode cX4_findNextRoads 63 = .ok (.iinc 2 1, 3) := by decide +kernel
theorem dX4_findNextRoads_66 : decode cX4_findNextRoads 66 = .ok (.goto (-62), 3) := by decide +kernel
theorem dX4_findNextRoads_69 : decode cX4_findNextRoads 69 = .ok (.iload_n 1, 1) := by decide +kernel
theorem dX4_findNextRoads_70 : decode cX4_findNextRoads 70 = .ok (.ireturn, 1) := by decide +kernel
set_option maxRecDepth 20000 in
theorem ggX4_loadOrHearCall_X3_get : GoodIn wsX4_loadOrHearCall wsX3_get := goodIn_r _ [8, 9, 48] (by decide +kernel) (by decide +kernel)
set_option maxRecDepth 20000 in
theorem gX4_loadOrHearCall_X3_get : GoodIn wsX4_loadOrHearCall (wsV RX4 84 RX3 yX3_get wsX3_get) := goodIn_app (goodIn_of _ (by decide +kernel)) ggX4_loadOrHearCall_X3_get
set_option maxRecDepth 20000 in
theorem ggX4_loadOrHearCall_X1_handTo : GoodIn wsX4_loadOrHearCall wsX1_handTo := goodIn_r _ [14, 15, 16, 17, 18, 19, 20, 7, 21, 9, 36, 37, 38, 39, 40, 41, 42, 43, 44, 45, 46, 47, 48] (by decide +kernel) (by decide +kernel)
set_option maxRecDepth 20000 in
theorem gX4_loadOrHearCall_X1_handTo : GoodIn wsX4_loadOrHearCall (wsV RX4 159 RX1 yX1_handTo wsX1_handTo) := goodIn_app (goodIn_of _ (by decide +kernel)) ggX4_loadOrHearCall_X1_handTo
set_option maxRecDepth 20000 in
theorem ggX4_loadOrHearCall_X3_set : GoodIn wsX4_loadOrHearCall wsX3_set := goodIn_r _ [21, 9, 48] (by decide +kernel) (by decide +kernel)
set_option maxRecDepth 20000 in
theorem gX4_loadOrHearCall_X3_set : GoodIn wsX4_loadOrHearCall (wsV RX4 87 RX3 yX3_set wsX3_set) := goodIn_app (goodIn_of _ (by decide +kernel)) ggX4_loadOrHearCall_X3_set
theorem dX4_loadOrHearCall_0 : decode cX4_loadOrHearCall 0 = .ok (.aload_n 0, 1) := by decide +kernel
theorem dX4_loadOrHearCall_1 : decode cX4_loadOrHearCall 1 = .ok (.getfield 21, 3) := by decide +kernel
theorem dX4_loadOrHearCall_4 : decode cX4_loadOrHearCall 4 = .ok (.getfield 102, 3) := by decide +kernel
theorem dX4_loadOrHearCall_7 : decode cX4_loadOrHearCall 7 = .ok (.iload_n 1, 1) := by decide +kernel
theorem dX4_loadOrHearCall_8 : decode cX4_loadOrHearCall 8 = .ok (.invokevirtual 84, 3) := by decide +kernel
theorem dX4_loadOrHearCall_11 : decode cX4_loadOrHearCall 11 = .ok (.istore_n 2, 1) := by decide +kernel
theorem dX4_loadOrHearCall_12 : decode cX4_loadOrHearCall 12 = .ok (.aload_n 0, 1) := by decide +kernel
theorem dX4_loadOrHearCall_13 : decode cX4_loadOrHearCall 13 = .ok (.getfield 21, 3) := by decide +kernel
theorem dX4_loadOrHearCall_16 : decode cX4_loadOrHearCall 16 = .ok (.getfield 137, 3) := by decide +kernel
theorem dX4_loadOrHearCall_19 : decode cX4_loadOrHearCall 19 = .ok (.iload_n 1, 1) := by decide +kernel
theorem dX4_loadOrHearCall_20 : decode cX4_loadOrHearCall 20 = .ok (.invokevirtual 84, 3) := by decide +kernel
theorem dX4_loadOrHearCall_23 : decode cX4_loadOrHearCall 23 = .ok (.istore_n 3, 1) := by decide +kernel
theorem dX4_loadOrHearCall_24 : decode cX4_loadOrHearCall 24 = .ok (.aload_n 0, 1) := by decide +kernel
theorem dX4_loadOrHearCall_25 : decode cX4_loadOrHearCall 25 = .ok (.getfield 21, 3) := by decide +kernel
theorem dX4_loadOrHearCall_28 : decode cX4_loadOrHearCall 28 = .ok (.getfield 153, 3) := by decide +kernel
theorem dX4_loadOrHearCall_31 : decode cX4_loadOrHearCall 31 = .ok (.iload_n 1, 1) := by decide +kernel
theorem dX4_loadOrHearCall_32 : decode cX4_loadOrHearCall 32 = .ok (.invokevirtual 84, 3) := by decide +kernel
theorem dX4_loadOrHearCall_35 : decode cX4_loadOrHearCall 35 = .ok (.istore 4, 2) := by decide +kernel
theorem dX4_loadOrHearCall_37 : decode cX4_loadOrHearCall 37 = .ok (.iconst 0, 1) := by decide +kernel
theorem dX4_loadOrHearCall_38 : decode cX4_loadOrHearCall 38 = .ok (.istore 5, 2) := by decide +kernel
theorem dX4_loadOrHearCall_40 : decode cX4_loadOrHearCall 40 = .ok (.iconst 0, 1) := by decide +kernel
theorem dX4_loadOrHearCall_41 : decode cX4_loadOrHearCall 41 = .ok (.istore 6, 2) := by decide +kernel
theorem dX4_loadOrHearCall_43 : decode cX4_loadOrHearCall 43 = .ok (.iload 6, 2) := by decide +kernel
theorem dX4_loadOrHearCall_45 : decode cX4_loadOrHearCall 45 = .ok (.aload_n 0, 1) := by decide +kernel
theorem dX4_loadOrHearCall_46 : decode cX4_loadOrHearCall 46 = .ok (.getfield 28, 3) := by decide +kernel
theorem dX4_loadOrHearCall_49 : decode cX4_loadOrHearCall 49 = .ok (.getfield 97, 3) := by decide +kernel
theorem dX4_loadOrHearCall_52 : decode cX4_loadOrHearCall 52 = .ok (.if_icmp .ge 83, 3) := by decide +kernel
theorem dX4_loadOrHearCall_55 : decode cX4_loadOrHearCall 55 = .ok (.aload_n 0, 1) := by decide +kernel
theorem dX4_loadOrHearCall_56 : decode cX4_loadOrHearCall 56 = .ok (.getfield 28, 3) := by decide +kernel
theorem dX4_loadOrHearCall_59 : decode cX4_loadOrHearCall 59 = .ok (.getfield 156, 3) := by decide +kernel
theorem dX4_loadOrHearCall_62 : decode cX4_loadOrHearCall 62 = .ok (.iload 6, 2) := by decide +kernel
theorem dX4_loadOrHearCall_64 : decode cX4_loadOrHearCall 64 = .ok (.invokevirtual 84, 3) := by decide +kernel
theorem dX4_loadOrHearCall_67 : decode cX4_loadOrHearCall 67 = .ok (.istore 7, 2) := by decide +kernel
theorem dX4_loadOrHearCall_69 : decode cX4_loadOrHearCall 69 = .ok (.aload_n 0, 1) := by decide +kernel
theorem dX4_loadOrHearCall_70 : decode cX4_loadOrHearCall 70 = .ok (.getfield 37, 3) := by decide +kernel
theorem dX4_loadOrHearCall_73 : decode cX4_loadOrHearCall 73 = .ok (.iload 7, 2) := by decide +kernel
theorem dX4_loadOrHearCall_75 : decode cX4_loadOrHearCall 75 = .ok (.invokevirtual 84, 3) := by decide +kernel
theorem dX4_loadOrHearCall_78 : decode cX4_loadOrHearCall 78 = .ok (.iload_n 3, 1) := by decide +kernel
theorem dX4_loadOrHearCall_79 : decode cX4_loadOrHearCall 79 = .ok (.if_icmp .ne 50, 3) := by decide +kernel
theorem dX4_loadOrHearCall_82 : decode cX4_loadOrHearCall 82 = .ok (.iconst 1, 1) := by decide +kernel
theorem dX4_loadOrHearCall_83 : decode cX4_loadOrHearCall 83 = .ok (.istore 5, 2) := by decide +kernel
theorem dX4_loadOrHearCall_85 : decode cX4_loadOrHearCall 85 = .ok (.aload_n 0, 1) := by decide +kernel
theorem dX4_loadOrHearCall_86 : decode cX4_loadOrHearCall 86 = .ok (.getfield 28, 3) := by decide +kernel
theorem dX4_loadOrHearCall_89 : decode cX4_loadOrHearCall 89 = .ok (.getfield 126, 3) := by decide +kernel
theorem dX4_loadOrHearCall_92 : decode cX4_loadOrHearCall 92 = .ok (.iload 7, 2) := by decide +kernel
theorem dX4_loadOrHearCall_94 : decode cX4_loadOrHearCall 94 = .ok (.invokevirtual 84, 3) := by decide +kernel
theorem dX4_loadOrHearCall_97 : decode cX4_loadOrHearCall 97 = .ok (.iload_n 2, 1) := by decide +kernel
theorem dX4_loadOrHearCall_98 : decode cX4_loadOrHearCall 98 = .ok (.if_icmp .ne 31, 3) := by decide +kernel
theorem dX4_loadOrHearCall_101 : decode cX4_loadOrHearCall 101 = .ok (.iload 4, 2) := by decide +kernel
theorem dX4_loadOrHearCall_103 : decode cX4_loadOrHearCall 103 = .ok (.ifCond .le 26, 3) := by decide +kernel
theorem dX4_loadOrHearCall_106 : decode cX4_loadOrHearCall 106 = .ok (.aload_n 0, 1) := by decide +kernel
theorem dX4_loadOrHearCall_107 : decode cX4_loadOrHearCall 107 = .ok (.getfield 28, 3) := by decide +kernel
theorem dX4_loadOrHearCall_110 : decode cX4_loadOrHearCall 110 = .ok (.iload 7, 2) := by decide +kernel
theorem dX4_loadOrHearCall_112 : decode cX4_loadOrHearCall 112 = .ok (.iload_n 1, 1) := by decide +kernel
theorem dX4_loadOrHearCall_113 : decode cX4_loadOrHearCall 113 = .ok (.invokevirtual 159, 3) := by decide +kernel
theorem dX4_loadOrHearCall_116 : decode cX4_loadOrHearCall 116 = .ok (.aload_n 0, 1) := by decide +kernel
theorem dX4_loadOrHearCall_117 : decode cX4_loadOrHearCall 117 = .ok (.getfield 37, 3) := by decide +kernel
theorem dX4_loadOrHearCall_120 : decode cX4_loadOrHearCall 120 = .ok (.iload 7, 2) := by decide +kernel
theorem dX4_loadOrHearCall_122 : decode cX4_loadOrHearCall 122 = .ok (.iconst (-1), 1) := by decide +kernel
theorem dX4_loadOrHearCall_123 : decode cX4_loadOrHearCall 123 = .ok (.invokevirtual 87, 3) := by decide +kernel
theorem dX4_loadOrHearCall_126 : decode cX4_loadOrHearCall 126 = .ok (.iinc 4 (-1), 3) := by decide +kernel
theorem dX4_loadOrHearCall_129 : decode cX4_loadOrHearCall 129 = .ok (.iinc 6 1, 3) := by decide +kernel
theorem dX4_loadOrHearCall_132 : decode cX4_loadOrHearCall 132 = .ok (.goto (-89), 3) := by decide +kernel
theorem dX4_loadOrHearCall_135 : decode cX4_loadOrHearCall 135 = .ok (.iload 5, 2) := by decide +kernel
theorem dX4_loadOrHearCall_137 : decode cX4_loadOrHearCall 137 = .ok (.ireturn, 1) := by decide +kernel
set_option maxRecDepth 20000 in
theorem ggX4_firstRoadOf_X3_get : GoodIn wsX4_firstRoadOf wsX3_get := goodIn_r _ [7, 8, 44] (by decide +kernel) (by decide +kernel)
set_option maxRecDepth 20000 in
theorem gX4_firstRoadOf_X3_get : GoodIn wsX4_firstRoadOf (wsV RX4 84 RX3 yX3_get wsX3_get) := goodIn_app (goodIn_of _ (by decide +kernel)) ggX4_firstRoadOf_X3_get
set_option maxRecDepth 20000 in
theorem ggX4_firstRoadOf_X1_goal : GoodIn wsX4_firstRoadOf wsX1_goal := goodIn_r _ [13, 14, 15, 16, 17, 4, 5, 6, 7, 8, 32, 33, 34, 35, 36, 37, 38, 39, 40, 41, 42, 43, 44] (by decide +kernel) (by decide +kernel)
set_option maxRecDepth 20000 in
theorem gX4_firstRoadOf_X1_goal : GoodIn wsX4_firstRoadOf (wsV RX4 162 RX1 yX1_goal wsX1_goal) := goodIn_app (goodIn_of _ (by decide +kernel)) ggX4_firstRoadOf_X1_goal
set_option maxRecDepth 20000 in
theorem ggX4_firstRoadOf_X5_firstRoad : GoodIn wsX4_firstRoadOf wsX5_firstRoad := goodIn_r _ [22, 23, 24, 4, 5, 6, 7, 8, 45, 46, 44] (by decide +kernel) (by decide +kernel)
set_option maxRecDepth 20000 in
theorem gX4_firstRoadOf_X5_firstRoad : GoodIn wsX4_firstRoadOf (wsV RX4 165 RX5 yX5_firstRoad wsX5_firstRoad) := goodIn_app (goodIn_of _ (by decide +kernel)) ggX4_firstRoadOf_X5_firstRoad
theorem dX4_firstRoadOf_0 : decode cX4_firstRoadOf 0 = .ok (.aload_n 0, 1) := by decide +kernel
theorem dX4_firstRoadOf_1 : decode cX4_firstRoadOf 1 = .ok (.getfield 12, 3) := by decide +kernel
theorem dX4_firstRoadOf_4 : decode cX4_firstRoadOf 4 = .ok (.aload_n 0, 1) := by decide +kernel
theorem dX4_firstRoadOf_5 : decode cX4_firstRoadOf 5 = .ok (.getfield 28, 3) := by decide +kernel
theorem dX4_firstRoadOf_8 : decode cX4_firstRoadOf 8 = .ok (.getfield 126, 3) := by decide +kernel
theorem dX4_firstRoadOf_11 : decode cX4_firstRoadOf 11 = .ok (.iload_n 1, 1) := by decide +kernel
theorem dX4_firstRoadOf_12 : decode cX4_firstRoadOf 12 = .ok (.invokevirtual 84, 3) := by decide +kernel
theorem dX4_firstRoadOf_15 : decode cX4_firstRoadOf 15 = .ok (.aload_n 0, 1) := by decide +kernel
theorem dX4_firstRoadOf_16 : decode cX4_firstRoadOf 16 = .ok (.getfield 28, 3) := by decide +kernel
theorem dX4_firstRoadOf_19 : decode cX4_firstRoadOf 19 = .ok (.iload_n 1, 1) := by decide +kernel
theorem dX4_firstRoadOf_20 : decode cX4_firstRoadOf 20 = .ok (.invokevirtual 162, 3) := by decide +kernel
theorem dX4_firstRoadOf_23 : decode cX4_firstRoadOf 23 = .ok (.invokevirtual 165, 3) := by decide +kernel
theorem dX4_firstRoadOf_26 : decode cX4_firstRoadOf 26 = .ok (.ireturn, 1) := by decide +kernel
set_option maxRecDepth 20000 in
theorem ggX4_setOut_X3_get : GoodIn wsX4_setOut wsX3_get := goodIn_r _ [8, 9, 83] (by decide +kernel) (by decide +kernel)
set_option maxRecDepth 20000 in
theorem gX4_setOut_X3_get : GoodIn wsX4_setOut (wsV RX4 84 RX3 yX3_get wsX3_get) := goodIn_app (goodIn_of _ (by decide +kernel)) ggX4_setOut_X3_get
set_option maxRecDepth 20000 in
theorem ggX4_setOut_X0_otherEnd : GoodIn wsX4_setOut wsX0_otherEnd := goodIn_r _ [14, 15, 16, 17, 5, 6, 7, 8, 9, 84, 85, 86, 87, 88, 89, 90, 91, 83] (by decide +kernel) (by decide +kernel)
set_option maxRecDepth 20000 in
theorem gX4_setOut_X0_otherEnd : GoodIn wsX4_setOut (wsV RX4 168 RX0 yX0_otherEnd wsX0_otherEnd) := goodIn_app (goodIn_of _ (by decide +kernel)) ggX4_setOut_X0_otherEnd
set_option maxRecDepth 20000 in
theorem ggX4_setOut_X3_set : GoodIn wsX4_setOut wsX3_set := goodIn_r _ [21, 9, 83] (by decide +kernel) (by decide +kernel)
set_option maxRecDepth 20000 in
theorem gX4_setOut_X3_set : GoodIn wsX4_setOut (wsV RX4 87 RX3 yX3_set wsX3_set) := goodIn_app (goodIn_of _ (by decide +kernel)) ggX4_setOut_X3_set
set_option maxRecDepth 20000 in
theorem ggX4_setOut_X0_hoursBetween : GoodIn wsX4_setOut wsX0_hoursBetween := goodIn_r _ [25, 26, 27, 28, 29, 30, 31, 17, 5, 6, 7, 8, 9, 84, 85, 86, 87, 88, 89, 90, 91, 83] (by decide +kernel) (by decide +kernel)
set_option maxRecDepth 20000 in
theorem gX4_setOut_X0_hoursBetween : GoodIn wsX4_setOut (wsV RX4 171 RX0 yX0_hoursBetween wsX0_hoursBetween) := goodIn_app (goodIn_of _ (by decide +kernel)) ggX4_setOut_X0_hoursBetween
set_option maxRecDepth 20000 in
theorem ggX4_setOut_X2_underWayOn : GoodIn wsX4_setOut wsX2_underWayOn := goodIn_r _ [36, 37, 38, 39, 5, 6, 7, 8, 9, 40, 41, 42, 35, 43, 44, 77, 78, 79, 80, 81, 82, 83] (by decide +kernel) (by decide +kernel)
set_option maxRecDepth 20000 in
theorem gX4_setOut_X2_underWayOn : GoodIn wsX4_setOut (wsV RX4 174 RX2 yX2_underWayOn wsX2_underWayOn) := goodIn_app (goodIn_of _ (by decide +kernel)) ggX4_setOut_X2_underWayOn
set_option maxRecDepth 20000 in
theorem ggX4_setOut_X4_crossesOf : GoodIn wsX4_setOut wsX4_crossesOf := goodIn_r _ [49, 50, 1, 51, 52, 53, 54, 55, 56, 57, 58, 5, 6, 7, 8, 9, 4, 59, 60, 61, 62, 63, 64, 65, 66, 67, 35, 68, 38, 69, 39, 70, 71, 72, 73, 74, 75, 76, 92, 93, 94, 95, 96, 97, 98, 99, 100, 101, 102, 103, 83, 77, 78, 79, 80, 81, 82] (by decide +kernel) (by decide +kernel)
set_option maxRecDepth 20000 in
theorem gX4_setOut_X4_crossesOf : GoodIn wsX4_setOut (wsV RX4 180 RX4 yX4_crossesOf wsX4_crossesOf) := goodIn_app (goodIn_of _ (by decide +kernel)) ggX4_setOut_X4_crossesOf
theorem dX4_setOut_0 : decode cX4_setOut 0 = .ok (.aload_n 0, 1) := by decide +kernel
theorem dX4_setOut_1 : decode cX4_setOut 1 = .ok (.getfield 21, 3) := by decide +kernel
theorem dX4_setOut_4 : decode cX4_setOut 4 = .ok (.getfield 137, 3) := by decide +kernel
theorem dX4_setOut_7 : decode cX4_setOut 7 = .ok (.iload_n 1, 1) := by decide +kernel
theorem dX4_setOut_8 : decode cX4_setOut 8 = .ok (.invokevirtual 84, 3) := by decide +kernel
theorem dX4_setOut_11 : decode cX4_setOut 11 = .ok (.istore_n 2, 1) := by decide +kernel
theorem dX4_setOut_12 : decode cX4_setOut 12 = .ok (.aload_n 0, 1) := by decide +kernel
theorem dX4_setOut_13 : decode cX4_setOut 13 = .ok (.getfield 21, 3) := by decide +kernel
theorem dX4_setOut_16 : decode cX4_setOut 16 = .ok (.getfield 102, 3) := by decide +kernel
theorem dX4_setOut_19 : decode cX4_setOut 19 = .ok (.iload_n 1, 1) := by decide +kernel
theorem dX4_setOut_20 : decode cX4_setOut 20 = .ok (.invokevirtual 84, 3) := by decide +kernel
theorem dX4_setOut_23 : decode cX4_setOut 23 = .ok (.istore_n 3, 1) := by decide +kernel
theorem dX4_setOut_24 : decode cX4_setOut 24 = .ok (.aload_n 0, 1) := by decide +kernel
theorem dX4_setOut_25 : decode cX4_setOut 25 = .ok (.getfield 41, 3) := by decide +kernel
theorem dX4_setOut_28 : decode cX4_setOut 28 = .ok (.iload_n 2, 1) := by decide +kernel
theorem dX4_setOut_29 : decode cX4_setOut 29 = .ok (.iload_n 3, 1) := by decide +kernel
theorem dX4_setOut_30 : decode cX4_setOut 30 = .ok (.invokevirtual 168, 3) := by decide +kernel
theorem dX4_setOut_33 : decode cX4_setOut 33 = .ok (.istore 4, 2) := by decide +kernel
theorem dX4_setOut_35 : decode cX4_setOut 35 = .ok (.aload_n 0, 1) := by decide +kernel
theorem dX4_setOut_36 : decode cX4_setOut 36 = .ok (.getfield 21, 3) := by decide +kernel
theorem dX4_setOut_39 : decode cX4_setOut 39 = .ok (.getfield 102, 3) := by decide +kernel
theorem dX4_setOut_42 : decode cX4_setOut 42 = .ok (.iload_n 1, 1) := by decide +kernel
theorem dX4_setOut_43 : decode cX4_setOut 43 = .ok (.iload 4, 2) := by decide +kernel
theorem dX4_setOut_45 : decode cX4_setOut 45 = .ok (.invokevirtual 87, 3) := by decide +kernel
theorem dX4_setOut_48 : decode cX4_setOut 48 = .ok (.aload_n 0, 1) := by decide +kernel
theorem dX4_setOut_49 : decode cX4_setOut 49 = .ok (.getfield 21, 3) := by decide +kernel
theorem dX4_setOut_52 : decode cX4_setOut 52 = .ok (.getfield 81, 3) := by decide +kernel
theorem dX4_setOut_55 : decode cX4_setOut 55 = .ok (.iload_n 1, 1) := by decide +kernel
theorem dX4_setOut_56 : decode cX4_setOut 56 = .ok (.aload_n 0, 1) := by decide +kernel
theorem dX4_setOut_57 : decode cX4_setOut 57 = .ok (.getfield 41, 3) := by decide +kernel
theorem dX4_setOut_60 : decode cX4_setOut 60 = .ok (.iload_n 2, 1) := by decide +kernel
theorem dX4_setOut_61 : decode cX4_setOut 61 = .ok (.iload_n 3, 1) := by decide +kernel
theorem dX4_setOut_62 : decode cX4_setOut 62 = .ok (.iload 4, 2) := by decide +kernel
theorem dX4_setOut_64 : decode cX4_setOut 64 = .ok (.invokevirtual 171, 3) := by decide +kernel
theorem dX4_setOut_67 : decode cX4_setOut 67 = .ok (.invokevirtual 87, 3) := by decide +kernel
theorem dX4_setOut_70 : decode cX4_setOut 70 = .ok (.aload_n 0, 1) := by decide +kernel
theorem dX4_setOut_71 : decode cX4_setOut 71 = .ok (.getfield 21, 3) := by decide +kernel
theorem dX4_setOut_74 : decode cX4_setOut 74 = .ok (.iload_n 2, 1) := by decide +kernel
theorem dX4_setOut_75 : decode cX4_setOut 75 = .ok (.invokevirtual 174, 3) := by decide +kernel
theorem dX4_setOut_78 : decode cX4_setOut 78 = .ok (.iconst 1, 1) := by decide +kernel
theorem dX4_setOut_79 : decode cX4_setOut 79 = .ok (.if_icmp .le 17, 3) := by decide +kernel
theorem dX4_setOut_82 : decode cX4_setOut 82 = .ok (.aload_n 0, 1) := by decide +kernel
theorem dX4_setOut_83 : decode cX4_setOut 83 = .ok (.dup, 1) := by decide +kernel
theorem dX4_setOut_84 : decode cX4_setOut 84 = .ok (.getfield 177, 3) := by decide +kernel
theorem dX4_setOut_87 : decode cX4_setOut 87 = .ok (.aload_n 0, 1) := by decide +kernel
theorem dX4_setOut_88 : decode cX4_setOut 88 = .ok (.iload_n 1, 1) := by decide +kernel
theorem dX4_setOut_89 : decode cX4_setOut 89 = .ok (.invokevirtual 180, 3) := by decide +kernel
theorem dX4_setOut_92 : decode cX4_setOut 92 = .ok (.iadd, 1) := by decide +kernel
theorem dX4_setOut_93 : decode cX4_setOut 93 = .ok (.putfield 177, 3) := by decide +kernel
theorem dX4_setOut_96 : decode cX4_setOut 96 = .ok (.return_, 1) := by decide +kernel
set_option maxRecDepth 20000 in
theorem ggX4_crossesOf_X1_isWith : GoodIn wsX4_crossesOf wsX1_isWith := goodIn_r _ [7, 8, 9, 10, 11, 12, 13, 14, 15, 38, 39, 40, 41, 42, 43, 44, 45, 46, 47, 48, 49, 50] (by decide +kernel) (by decide +kernel)
set_option maxRecDepth 20000 in
theorem gX4_crossesOf_X1_isWith : GoodIn wsX4_crossesOf (wsV RX4 98 RX1 yX1_isWith wsX1_isWith) := goodIn_app (goodIn_of _ (by decide +kernel)) ggX4_crossesOf_X1_isWith
set_option maxRecDepth 20000 in
theorem ggX4_crossesOf_X3_get : GoodIn wsX4_crossesOf wsX3_get := goodIn_r _ [14, 15, 50] (by decide +kernel) (by decide +kernel)
set_option maxRecDepth 20000 in
theorem gX4_crossesOf_X3_get : GoodIn wsX4_crossesOf (wsV RX4 84 RX3 yX3_get wsX3_get) := goodIn_app (goodIn_of _ (by decide +kernel)) ggX4_crossesOf_X3_get
set_option maxRecDepth 20000 in
theorem ggX4_crossesOf_X1_areAnswers : GoodIn wsX4_crossesOf wsX1_areAnswers := goodIn_r _ [20, 21, 22, 10, 11, 12, 13, 14, 15, 38, 39, 40, 41, 42, 43, 44, 45, 46, 47, 48, 49, 50] (by decide +kernel) (by decide +kernel)
set_option maxRecDepth 20000 in
theorem gX4_crossesOf_X1_areAnswers : GoodIn wsX4_crossesOf (wsV RX4 183 RX1 yX1_areAnswers wsX1_areAnswers) := goodIn_app (goodIn_of _ (by decide +kernel)) ggX4_crossesOf_X1_areAnswers
set_option maxRecDepth 20000 in
theorem ggX4_crossesOf_X2_areOpposed : GoodIn wsX4_crossesOf wsX2_areOpposed := goodIn_r _ [27, 28, 29, 30, 11, 12, 13, 14, 15, 51, 52, 53, 54, 55, 56, 50] (by decide +kernel) (by decide +kernel)
set_option maxRecDepth 20000 in
theorem gX4_crossesOf_X2_areOpposed : GoodIn wsX4_crossesOf (wsV RX4 189 RX2 yX2_areOpposed wsX2_areOpposed) := goodIn_app (goodIn_of _ (by decide +kernel)) ggX4_crossesOf_X2_areOpposed
theorem dX4_crossesOf_0 : decode cX4_crossesOf 0 = .ok (.iconst 0, 1) := by decide +kernel
theorem dX4_crossesOf_1 : decode cX4_crossesOf 1 = .ok (.istore_n 2, 1) := by decide +kernel
theorem dX4_crossesOf_2 : decode cX4_crossesOf 2 = .ok (.iconst 0, 1) := by decide +kernel
theorem dX4_crossesOf_3 : decode cX4_crossesOf 3 = .ok (.istore_n 3, 1) := by decide +kernel
theorem dX4_crossesOf_4 : decode cX4_crossesOf 4 = .ok (.iload_n 3, 1) := by decide +kernel
theorem dX4_crossesOf_5 : decode cX4_crossesOf 5 = .ok (.aload_n 0, 1) := by decide +kernel
theorem dX4_crossesOf_6 : decode cX4_crossesOf 6 = .ok (.getfield 28, 3) := by decide +kernel
theorem dX4_crossesOf_9 : decode cX4_crossesOf 9 = .ok (.getfield 97, 3) := by decide +kernel
theorem dX4_crossesOf_12 : decode cX4_crossesOf 12 = .ok (.if_icmp .ge 97, 3) := by decide +kernel
theorem dX4_crossesOf_15 : decode cX4_crossesOf 15 = .ok (.aload_n 0, 1) := by decide +kernel
theorem dX4_crossesOf_16 : decode cX4_crossesOf 16 = .ok (.getfield 28, 3) := by decide +kernel
theorem dX4_crossesOf_19 : decode cX4_crossesOf 19 = .ok (.iload_n 3, 1) := by decide +kernel
theorem dX4_crossesOf_20 : decode cX4_crossesOf 20 = .ok (.iload_n 1, 1) := by decide +kernel
theorem dX4_crossesOf_21 : decode cX4_crossesOf 21 = .ok (.invokevirtual 98, 3) := by decide +kernel
theorem dX4_crossesOf_24 : decode cX4_crossesOf 24 = .ok (.ifCond .eq 79, 3) := by decide +kernel
theorem dX4_crossesOf_27 : decode cX4_crossesOf 27 = .ok (.iconst 0, 1) := by decide +kernel
theorem dX4_crossesOf_28 : decode cX4_crossesOf 28 = .ok (.istore 4, 2) := by decide +kernel
theorem dX4_crossesOf_30 : decode cX4_crossesOf 30 = .ok (.iload 4, 2) := by decide +kernel
theorem dX4_crossesOf_32 : decode cX4_crossesOf 32 = .ok (.aload_n 0, 1) := by decide +kernel
theorem dX4_crossesOf_33 : decode cX4_crossesOf 33 = .ok (.getfield 28, 3) := by decide +kernel
theorem dX4_crossesOf_36 : decode cX4_crossesOf 36 = .ok (.getfield 97, 3) := by decide +kernel
theorem dX4_crossesOf_39 : decode cX4_crossesOf 39 = .ok (.if_icmp .ge 64, 3) := by decide +kernel
theorem dX4_crossesOf_42 : decode cX4_crossesOf 42 = .ok (.aload_n 0, 1) := by decide +kernel
theorem dX4_crossesOf_43 : decode cX4_crossesOf 43 = .ok (.getfield 28, 3) := by decide +kernel
theorem dX4_crossesOf_46 : decode cX4_crossesOf 46 = .ok (.getfield 120, 3) := by decide +kernel
theorem dX4_crossesOf_49 : decode cX4_crossesOf 49 = .ok (.iload 4, 2) := by decide +kernel
theorem dX4_crossesOf_51 : decode cX4_crossesOf 51 = .ok (.invokevirtual 84, 3) := by decide +kernel
theorem dX4_crossesOf_54 : decode cX4_crossesOf 54 = .ok (.iconst 1, 1) := by decide +kernel
theorem dX4_crossesOf_55 : decode cX4_crossesOf 55 = .ok (.if_icmp .ne 42, 3) := by decide +kernel
theorem dX4_crossesOf_58 : decode cX4_crossesOf 58 = .ok (.aload_n 0, 1) := by decide +kernel
theorem dX4_crossesOf_59 : decode cX4_crossesOf 59 = .ok (.getfield 28, 3) := by decide +kernel
theorem dX4_crossesOf_62 : decode cX4_crossesOf 62 = .ok (.iload 4, 2) := by decide +kernel
theorem dX4_crossesOf_64 : decode cX4_crossesOf 64 = .ok (.iload_n 3, 1) := by decide +kernel
theorem dX4_crossesOf_65 : decode cX4_crossesOf 65 = .ok (.invokevirtual 183, 3) := by decide +kernel
theorem dX4_crossesOf_68 : decode cX4_crossesOf 68 = .ok (.ifCond .eq 29, 3) := by decide +kernel
theorem dX4_crossesOf_71 : decode cX4_crossesOf 71 = .ok (.aload_n 0, 1) := by decide +kernel
theorem dX4_crossesOf_72 : decode cX4_crossesOf 72 = .ok (.getfield 21, 3) := by decide +kernel
theorem dX4_crossesOf_75 : decode cX4_crossesOf 75 = .ok (.aload_n 0, 1) := by decide +kernel
theorem dX4_crossesOf_76 : decode cX4_crossesOf 76 = .ok (.getfield 28, 3) := by decide +kernel
theorem dX4_crossesOf_79 : decode cX4_crossesOf 79 = .ok (.getfield 186, 3) := by decide +kernel
theorem dX4_crossesOf_82 : decode cX4_crossesOf 82 = .ok (.iload 4, 2) := by decide +kernel
theorem dX4_crossesOf_84 : decode cX4_crossesOf 84 = .ok (.invokevirtual 84, 3) := by decide +kernel
theorem dX4_crossesOf_87 : decode cX4_crossesOf 87 = .ok (.iload_n 1, 1) := by decide +kernel
theorem dX4_crossesOf_88 : decode cX4_crossesOf 88 = .ok (.invokevirtual 189, 3) := by decide +kernel
theorem dX4_crossesOf_91 : decode cX4_crossesOf 91 = .ok (.ifCond .eq 6, 3) := by decide +kernel
theorem dX4_crossesOf_94 : decode cX4_crossesOf 94 = .ok (.iinc 2 1, 3) := by decide +kernel
theorem dX4_crossesOf_97 : decode cX4_crossesOf 97 = .ok (.iinc 4 1, 3) := by decide +kernel
theorem dX4_crossesOf_100 : decode cX4_crossesOf 100 = .ok (.goto (-70), 3) := by decide +kernel
theorem dX4_crossesOf_103 : decode cX4_crossesOf 103 = .ok (.iinc 3 1, 3) := by decide +kernel
theorem dX4_crossesOf_106 : decode cX4_crossesOf 106 = .ok (.goto (-102), 3) := by decide +kernel
theorem dX4_crossesOf_109 : decode cX4_crossesOf 109 = .ok (.iload_n 2, 1) := by decide +kernel
theorem dX4_crossesOf_110 : decode cX4_crossesOf 110 = .ok (.ireturn, 1) := by decide +kernel
set_option maxRecDepth 20000 in
theorem ggX4_copyFrom_X5_copyFrom : GoodIn wsX4_copyFrom wsX5_copyFrom := goodIn_r _ [10, 11, 12, 13, 14, 15, 16, 17, 18, 19, 20, 21, 22, 23, 24, 25, 26, 64, 65, 66] (by decide +kernel) (by decide +kernel)
set_option maxRecDepth 20000 in
theorem gX4_copyFrom_X5_copyFrom : GoodIn wsX4_copyFrom (wsV RX4 192 RX5 yX5_copyFrom wsX5_copyFrom) := goodIn_app (goodIn_of _ (by decide +kernel)) ggX4_copyFrom_X5_copyFrom
set_option maxRecDepth 20000 in
theorem ggX4_copyFrom_X2_copyFrom : GoodIn wsX4_copyFrom wsX2_copyFrom := goodIn_r _ [31, 32, 33, 34, 35, 36, 37, 38, 14, 15, 16, 17, 18, 19, 20, 21, 22, 23, 24, 25, 26, 67, 68, 69, 70, 71, 72, 66] (by decide +kernel) (by decide +kernel)
set_option maxRecDepth 20000 in
theorem gX4_copyFrom_X2_copyFrom : GoodIn wsX4_copyFrom (wsV RX4 196 RX2 yX2_copyFrom wsX2_copyFrom) := goodIn_app (goodIn_of _ (by decide +kernel)) ggX4_copyFrom_X2_copyFrom
set_option maxRecDepth 20000 in
theorem ggX4_copyFrom_X1_copyFrom : GoodIn wsX4_copyFrom wsX1_copyFrom := goodIn_r _ [43, 44, 45, 46, 47, 48, 49, 50, 51, 52, 53, 54, 55, 56, 14, 15, 16, 17, 18, 19, 20, 21, 22, 23, 24, 25, 26, 73, 74, 75, 76, 77, 78, 79, 80, 81, 82, 83, 84, 66] (by decide +kernel) (by decide +kernel)
set_option maxRecDepth 20000 in
theorem gX4_copyFrom_X1_copyFrom : GoodIn wsX4_copyFrom (wsV RX4 199 RX1 yX1_copyFrom wsX1_copyFrom) := goodIn_app (goodIn_of _ (by decide +kernel)) ggX4_copyFrom_X1_copyFrom
theorem dX4_copyFrom_0 : decode cX4_copyFrom 0 = .ok (.aload_n 0, 1) := by decide +kernel
theorem dX4_copyFrom_1 : decode cX4_copyFrom 1 = .ok (.getfield 12, 3) := by decide +kernel
theorem dX4_copyFrom_4 : decode cX4_copyFrom 4 = .ok (.aload_n 1, 1) := by decide +kernel
theorem dX4_copyFrom_5 : decode cX4_copyFrom 5 = .ok (.getfield 12, 3) := by decide +kernel
theorem dX4_copyFrom_8 : decode cX4_copyFrom 8 = .ok (.invokevirtual 192, 3) := by decide +kernel
theorem dX4_copyFrom_11 : decode cX4_copyFrom 11 = .ok (.aload_n 0, 1) := by decide +kernel
theorem dX4_copyFrom_12 : decode cX4_copyFrom 12 = .ok (.getfield 21, 3) := by decide +kernel
theorem dX4_copyFrom_15 : decode cX4_copyFrom 15 = .ok (.aload_n 1, 1) := by decide +kernel
theorem dX4_copyFrom_16 : decode cX4_copyFrom 16 = .ok (.getfield 21, 3) := by decide +kernel
theorem dX4_copyFrom_19 : decode cX4_copyFrom 19 = .ok (.invokevirtual 196, 3) := by decide +kernel
theorem dX4_copyFrom_22 : decode cX4_copyFrom 22 = .ok (.aload_n 0, 1) := by decide +kernel
theorem dX4_copyFrom_23 : decode cX4_copyFrom 23 = .ok (.getfield 28, 3) := by decide +kernel
theorem dX4_copyFrom_26 : decode cX4_copyFrom 26 = .ok (.aload_n 1, 1) := by decide +kernel
theorem dX4_copyFrom_27 : decode cX4_copyFrom 27 = .ok (.getfield 28, 3) := by decide +kernel
theorem dX4_copyFrom_30 : decode cX4_copyFrom 30 = .ok (.invokevirtual 199, 3) := by decide +kernel
theorem dX4_copyFrom_33 : decode cX4_copyFrom 33 = .ok (.aload_n 0, 1) := by decide +kernel
theorem dX4_copyFrom_34 : decode cX4_copyFrom 34 = .ok (.aload_n 1, 1) := by decide +kernel
theorem dX4_copyFrom_35 : decode cX4_copyFrom 35 = .ok (.getfield 70, 3) := by decide +kernel
theorem dX4_copyFrom_38 : decode cX4_copyFrom 38 = .ok (.putfield 70, 3) := by decide +kernel
theorem dX4_copyFrom_41 : decode cX4_copyFrom 41 = .ok (.aload_n 0, 1) := by decide +kernel
theorem dX4_copyFrom_42 : decode cX4_copyFrom 42 = .ok (.aload_n 1, 1) := by decide +kernel
theorem dX4_copyFrom_43 : decode cX4_copyFrom 43 = .ok (.getfield 177, 3) := by decide +kernel
theorem dX4_copyFrom_46 : decode cX4_copyFrom 46 = .ok (.putfield 177, 3) := by decide +kernel
theorem dX4_copyFrom_49 : decode cX4_copyFrom 49 = .ok (.return_, 1) := by decide +kernel
set_option maxRecDepth 20000 in
theorem ggX5_init_X3_init : GoodIn wsX5_init wsX3_init := goodIn_r _ [12, 13, 2, 3, 14, 15, 16, 17, 18, 19, 24] (by decide +kernel) (by decide +kernel)
set_option maxRecDepth 20000 in
theorem gX5_init_X3_init : GoodIn wsX5_init (wsX3_init) := ggX5_init_X3_init
set_option maxRecDepth 20000 in
theorem ggX5_init_X3_set : GoodIn wsX5_init wsX3_set := goodIn_r _ [23, 19, 24] (by decide +kernel) (by decide +kernel)
set_option maxRecDepth 20000 in
theorem gX5_init_X3_set : GoodIn wsX5_init (wsV RX5 24 RX3 yX3_set wsX3_set) := goodIn_app (goodIn_of _ (by decide +kernel)) ggX5_init_X3_set
theorem dX5_init_0 : decode cX5_init 0 = .ok (.aload_n 0, 1) := by decide +kernel
theorem dX5_init_1 : decode cX5_init 1 = .ok (.invokespecial 3, 3) := by decide +kernel
theorem dX5_init_4 : decode cX5_init 4 = .ok (.aload_n 0, 1) := by decide +kernel
theorem dX5_init_5 : decode cX5_init 5 = .ok (.new 9, 3) := by decide +kernel
theorem dX5_init_8 : decode cX5_init 8 = .ok (.dup, 1) := by decide +kernel
theorem dX5_init_9 : decode cX5_init 9 = .ok (.bipush 100, 2) := by decide +kernel
theorem dX5_init_11 : decode cX5_init 11 = .ok (.invokespecial 11, 3) := by decide +kernel
theorem dX5_init_14 : decode cX5_init 14 = .ok (.putfield 14, 3) := by decide +kernel
theorem dX5_init_17 : decode cX5_init 17 = .ok (.aload_n 0, 1) := by decide +kernel
theorem dX5_init_18 : decode cX5_init 18 = .ok (.new 9, 3) := by decide +kernel
theorem dX5_init_21 : decode cX5_init 21 = .ok (.dup, 1) := by decide +kernel
theorem dX5_init_22 : decode cX5_init 22 = .ok (.bipush 100, 2) := by decide +kernel
theorem dX5_init_24 : decode cX5_init 24 = .ok (.invokespecial 11, 3) := by decide +kernel
theorem dX5_init_27 : decode cX5_init 27 = .ok (.putfield 20, 3) := by decide +kernel
theorem dX5_init_30 : decode cX5_init 30 = .ok (.iconst 0, 1) := by decide +kernel
theorem dX5_init_31 : decode cX5_init 31 = .ok (.istore_n 1, 1) := by decide +kernel
theorem dX5_init_32 : decode cX5_init 32 = .ok (.iload_n 1, 1) := by decide +kernel
theorem dX5_init_33 : decode cX5_init 33 = .ok (.bipush 10, 2) := by decide +kernel
theorem dX5_init_35 : decode cX5_init 35 = .ok (.if_icmp .ge 61, 3) := by decide +kernel
theorem dX5_init_38 : decode cX5_init 38 = .ok (.iconst 0, 1) := by decide +kernel
theorem dX5_init_39 : decode cX5_init 39 = .ok (.istore_n 2, 1) := by decide +kernel
theorem dX5_init_40 : decode cX5_init 40 = .ok (.iload_n 2, 1) := by decide +kernel
theorem dX5_init_41 : decode cX5_init 41 = .ok (.bipush 10, 2) := by decide +kernel
theorem dX5_init_43 : decode cX5_init 43 = .ok (.if_icmp .ge 47, 3) := by decide +kernel
theorem dX5_init_46 : decode cX5_init 46 = .ok (.aload_n 0, 1) := by decide +kernel
theorem dX5_init_47 : decode cX5_init 47 = .ok (.getfield 14, 3) := by decide +kernel
theorem dX5_init_50 : decode cX5_init 50 = .ok (.iload_n 1, 1) := by decide +kernel
theorem dX5_init_51 : decode cX5_init 51 = .ok (.bipush 10, 2) := by decide +kernel
theorem dX5_init_53 : decode cX5_init 53 = .ok (.imul, 1) := by decide +kernel
theorem dX5_init_54 : decode cX5_init 54 = .ok (.iload_n 2, 1) := by decide +kernel
theorem dX5_init_55 : decode cX5_init 55 = .ok (.iadd, 1) := by decide +kernel
theorem dX5_init_56 : decode cX5_init 56 = .ok (.iload_n 1, 1) := by decide +kernel
theorem dX5_init_57 : decode cX5_init 57 = .ok (.iload_n 2, 1) := by decide +kernel
theorem dX5_init_58 : decode cX5_init 58 = .ok (.if_icmp .ne 7, 3) := by decide +kernel
theorem dX5_init_61 : decode cX5_init 61 = .ok (.iconst 0, 1) := by decide +kernel
theorem dX5_init_62 : decode cX5_init 62 = .ok (.goto 5, 3) := by decide +kernel
theorem dX5_init_65 : decode cX5_init 65 = .ok (.ldc 23, 2) := by decide +kernel
theorem dX5_init_67 : decode cX5_init 67 = .ok (.invokevirtual 24, 3) := by decide +kernel
theorem dX5_init_70 : decode cX5_init 70 = .ok (.aload_n 0, 1) := by decide +kernel
theorem dX5_init_71 : decode cX5_init 71 = .ok (.getfield 20, 3) := by decide +kernel
theorem dX5_init_74 : decode cX5_init 74 = .ok (.iload_n 1, 1) := by decide +kernel
theorem dX5_init_75 : decode cX5_init 75 = .ok (.bipush 10, 2) := by decide +kernel
theorem dX5_init_77 : decode cX5_init 77 = .ok (.imul, 1) := by decide +kernel
theorem dX5_init_78 : decode cX5_init 78 = .ok (.iload_n 2, 1) := by decide +kernel
theorem dX5_init_79 : decode cX5_init 79 = .ok (.iadd, 1) := by decide +kernel
theorem dX5_init_80 : decode cX5_init 80 = .ok (.iconst (-1), 1) := by decide +kernel
theorem dX5_init_81 : decode cX5_init 81 = .ok (.invokevirtual 24, 3) := by decide +kernel
theorem dX5_init_84 : decode cX5_init 84 = .ok (.iinc 2 1, 3) := by decide +kernel
theorem dX5_init_87 : decode cX5_init 87 = .ok (.goto (-47), 3) := by decide +kernel
theorem dX5_init_90 : decode cX5_init 90 = .ok (.iinc 1 1, 3) := by decide +kernel
theorem dX5_init_93 : decode cX5_init 93 = .ok (.goto (-61), 3) := by decide +kernel
theorem dX5_init_96 : decode cX5_init 96 = .ok (.return_, 1) := by decide +kernel
set_option maxRecDepth 20000 in
theorem ggX5_hoursOf_X3_get : GoodIn wsX5_hoursOf wsX3_get := goodIn_r _ [6, 7, 10] (by decide +kernel) (by decide +kernel)
set_option maxRecDepth 20000 in
theorem gX5_hoursOf_X3_get : GoodIn wsX5_hoursOf (wsV RX5 28 RX3 yX3_get wsX3_get) := goodIn_app (goodIn_of _ (by decide +kernel)) ggX5_hoursOf_X3_get
theorem dX5_hoursOf_0 : decode cX5_hoursOf 0 = .ok (.aload_n 0, 1) := by decide +kernel
theorem dX5_hoursOf_1 : decode cX5_hoursOf 1 = .ok (.getfield 14, 3) := by decide +kernel
theorem dX5_hoursOf_4 : decode cX5_hoursOf 4 = .ok (.iload_n 1, 1) := by decide +kernel
theorem dX5_hoursOf_5 : decode cX5_hoursOf 5 = .ok (.bipush 10, 2) := by decide +kernel
theorem dX5_hoursOf_7 : decode cX5_hoursOf 7 = .ok (.imul, 1) := by decide +kernel
theorem dX5_hoursOf_8 : decode cX5_hoursOf 8 = .ok (.iload_n 2, 1) := by decide +kernel
theorem dX5_hoursOf_9 : decode cX5_hoursOf 9 = .ok (.iadd, 1) := by decide +kernel
theorem dX5_hoursOf_10 : decode cX5_hoursOf 10 = .ok (.invokevirtual 28, 3) := by decide +kernel
theorem dX5_hoursOf_13 : decode cX5_hoursOf 13 = .ok (.ireturn, 1) := by decide +kernel
set_option maxRecDepth 20000 in
theorem ggX5_firstRoad_X3_get : GoodIn wsX5_firstRoad wsX3_get := goodIn_r _ [6, 7, 10] (by decide +kernel) (by decide +kernel)
set_option maxRecDepth 20000 in
theorem gX5_firstRoad_X3_get : GoodIn wsX5_firstRoad (wsV RX5 28 RX3 yX3_get wsX3_get) := goodIn_app (goodIn_of _ (by decide +kernel)) ggX5_firstRoad_X3_get
theorem dX5_firstRoad_0 : decode cX5_firstRoad 0 = .ok (.aload_n 0, 1) := by decide +kernel
theorem dX5_firstRoad_1 : decode cX5_firstRoad 1 = .ok (.getfield 20, 3) := by decide +kernel
theorem dX5_firstRoad_4 : decode cX5_firstRoad 4 = .ok (.iload_n 1, 1) := by decide +kernel
theorem dX5_firstRoad_5 : decode cX5_firstRoad 5 = .ok (.bipush 10, 2) := by decide +kernel
theorem dX5_firstRoad_7 : decode cX5_firstRoad 7 = .ok (.imul, 1) := by decide +kernel
theorem dX5_firstRoad_8 : decode cX5_firstRoad 8 = .ok (.iload_n 2, 1) := by decide +kernel
theorem dX5_firstRoad_9 : decode cX5_firstRoad 9 = .ok (.iadd, 1) := by decide +kernel
theorem dX5_firstRoad_10 : decode cX5_firstRoad 10 = .ok (.invokevirtual 28, 3) := by decide +kernel
theorem dX5_firstRoad_13 : decode cX5_firstRoad 13 = .ok (.ireturn, 1) := by decide +kernel
set_option maxRecDepth 20000 in
theorem ggX5_find_X2_ofRoad : GoodIn wsX5_find wsX2_ofRoad := goodIn_r _ [5, 6, 7, 8, 9, 10, 11, 12, 13, 64, 65, 66, 67, 68, 69, 70] (by decide +kernel) (by decide +kernel)
set_option maxRecDepth 20000 in
theorem gX5_find_X2_ofRoad : GoodIn wsX5_find (wsV RX5 38 RX2 yX2_ofRoad wsX2_ofRoad) := goodIn_app (goodIn_of _ (by decide +kernel)) ggX5_find_X2_ofRoad
set_option maxRecDepth 20000 in
theorem ggX5_find_X3_get : GoodIn wsX5_find wsX3_get := goodIn_r _ [12, 13, 70] (by decide +kernel) (by decide +kernel)
set_option maxRecDepth 20000 in
theorem gX5_find_X3_get : GoodIn wsX5_find (wsV RX5 28 RX3 yX3_get wsX3_get) := goodIn_app (goodIn_of _ (by decide +kernel)) ggX5_find_X3_get
set_option maxRecDepth 20000 in
theorem ggX5_find_X0_hoursBetween : GoodIn wsX5_find wsX0_hoursBetween := goodIn_r _ [19, 20, 21, 22, 23, 24, 25, 26, 9, 10, 11, 12, 13, 56, 57, 58, 59, 60, 61, 62, 63, 70] (by decide +kernel) (by decide +kernel)
set_option maxRecDepth 20000 in
theorem gX5_find_X0_hoursBetween : GoodIn wsX5_find (wsV RX5 49 RX0 yX0_hoursBetween wsX0_hoursBetween) := goodIn_app (goodIn_of _ (by decide +kernel)) ggX5_find_X0_hoursBetween
set_option maxRecDepth 20000 in
theorem ggX5_find_X5_shorten : GoodIn wsX5_find wsX5_shorten := goodIn_r _ [31, 32, 33, 34, 35, 30, 36, 14, 9, 10, 11, 12, 13, 37, 38, 39, 40, 71, 72, 70] (by decide +kernel) (by decide +kernel)
set_option maxRecDepth 20000 in
theorem gX5_find_X5_shorten : GoodIn wsX5_find (wsV RX5 53 RX5 yX5_shorten wsX5_shorten) := goodIn_app (goodIn_of _ (by decide +kernel)) ggX5_find_X5_shorten
set_option maxRecDepth 20000 in
theorem ggX5_find_X5_joinWays : GoodIn wsX5_find wsX5_joinWays := goodIn_r _ [44, 33, 34, 35, 30, 36, 32, 14, 9, 10, 11, 12, 13, 27, 28, 29, 31, 37, 38, 39, 40, 71, 72, 70] (by decide +kernel) (by decide +kernel)
set_option maxRecDepth 20000 in
theorem gX5_find_X5_joinWays : GoodIn wsX5_find (wsV RX5 60 RX5 yX5_joinWays wsX5_joinWays) := goodIn_app (goodIn_of _ (by decide +kernel)) ggX5_find_X5_joinWays
set_option maxRecDepth 20000 in
theorem ggX5_find_X5_beginWith : GoodIn wsX5_find wsX5_beginWith := goodIn_r _ [48, 49, 50, 51, 52, 18, 53, 54, 55, 26, 9, 10, 11, 12, 13, 15, 16, 17, 19, 20, 21, 22, 23, 24, 25, 33, 34, 35, 30, 36, 32, 14, 37, 38, 39, 40, 56, 57, 58, 59, 60, 61, 62, 63, 71, 72, 70] (by decide +kernel) (by decide +kernel)
set_option maxRecDepth 20000 in
theorem gX5_find_X5_beginWith : GoodIn wsX5_find (wsV RX5 63 RX5 yX5_beginWith wsX5_beginWith) := goodIn_app (goodIn_of _ (by decide +kernel)) ggX5_find_X5_beginWith
theorem dX5_find_0 : decode cX5_find 0 = .ok (.iconst 0, 1) := by decide +kernel
theorem dX5_find_1 : decode cX5_find 1 = .ok (.istore_n 3, 1) := by decide +kernel
theorem dX5_find_2 : decode cX5_find 2 = .ok (.iload_n 3, 1) := by decide +kernel
theorem dX5_find_3 : decode cX5_find 3 = .ok (.aload_n 1, 1) := by decide +kernel
theorem dX5_find_4 : decode cX5_find 4 = .ok (.getfield 32, 3) := by decide +kernel
theorem dX5_find_7 : decode cX5_find 7 = .ok (.if_icmp .ge 71, 3) := by decide +kernel
theorem dX5_find_10 : decode cX5_find 10 = .ok (.aload_n 2, 1) := by decide +kernel
theorem dX5_find_11 : decode cX5_find 11 = .ok (.iload_n 3, 1) := by decide +kernel
theorem dX5_find_12 : decode cX5_find 12 = .ok (.invokevirtual 38, 3) := by decide +kernel
theorem dX5_find_15 : decode cX5_find 15 = .ok (.ifCond .le 57, 3) := by decide +kernel
theorem dX5_find_18 : decode cX5_find 18 = .ok (.aload_n 1, 1) := by decide +kernel
theorem dX5_find_19 : decode cX5_find 19 = .ok (.getfield 43, 3) := by decide +kernel
theorem dX5_find_22 : decode cX5_find 22 = .ok (.iload_n 3, 1) := by decide +kernel
theorem dX5_find_23 : decode cX5_find 23 = .ok (.invokevirtual 28, 3) := by decide +kernel
theorem dX5_find_26 : decode cX5_find 26 = .ok (.istore 4, 2) := by decide +kernel
theorem dX5_find_28 : decode cX5_find 28 = .ok (.aload_n 1, 1) := by decide +kernel
theorem dX5_find_29 : decode cX5_find 29 = .ok (.getfield 46, 3) := by decide +kernel
theorem dX5_find_32 : decode cX5_find 32 = .ok (.iload_n 3, 1) := by decide +kernel
theorem dX5_find_33 : decode cX5_find 33 = .ok (.invokevirtual 28, 3) := by decide +kernel
theorem dX5_find_36 : decode cX5_find 36 = .ok (.istore 5, 2) := by decide +kernel
theorem dX5_find_38 : decode cX5_find 38 = .ok (.aload_n 0, 1) := by decide +kernel
theorem dX5_find_39 : decode cX5_find 39 = .ok (.iload 4, 2) := by decide +kernel
theorem dX5_find_41 : decode cX5_find 41 = .ok (.iload 5, 2) := by decide +kernel
theorem dX5_find_43 : decode cX5_find 43 = .ok (.aload_n 1, 1) := by decide +kernel
theorem dX5_find_44 : decode cX5_find 44 = .ok (.iload_n 3, 1) := by decide +kernel
theorem dX5_find_45 : decode cX5_find 45 = .ok (.iload 4, 2) := by decide +kernel
theorem dX5_find_47 : decode cX5_find 47 = .ok (.iload 5, 2) := by decide +kernel
theorem dX5_find_49 : decode cX5_find 49 = .ok (.invokevirtual 49, 3) := by decide +kernel
theorem dX5_find_52 : decode cX5_find 52 = .ok (.invokevirtual 53, 3) := by decide +kernel
theorem dX5_find_55 : decode cX5_find 55 = .ok (.aload_n 0, 1) := by decide +kernel
theorem dX5_find_56 : decode cX5_find 56 = .ok (.iload 5, 2) := by decide +kernel
theorem dX5_find_58 : decode cX5_find 58 = .ok (.iload 4, 2) := by decide +kernel
theorem dX5_find_60 : decode cX5_find 60 = .ok (.aload_n 1, 1) := by decide +kernel
theorem dX5_find_61 : decode cX5_find 61 = .ok (.iload_n 3, 1) := by decide +kernel
theorem dX5_find_62 : decode cX5_find 62 = .ok (.iload 5, 2) := by decide +kernel
theorem dX5_find_64 : decode cX5_find 64 = .ok (.iload 4, 2) := by decide +kernel
theorem dX5_find_66 : decode cX5_find 66 = .ok (.invokevirtual 49, 3) := by decide +kernel
theorem dX5_find_69 : decode cX5_find 69 = .ok (.invokevirtual 53, 3) := by decide +kernel
theorem dX5_find_72 : decode cX5_find 72 = .ok (.iinc 3 1, 3) := by decide +kernel
theorem dX5_find_75 : decode cX5_find 75 = .ok (.goto (-73), 3) := by decide +kernel
theorem dX5_find_78 : decode cX5_find 78 = .ok (.aload_n 0, 1) := by decide +kernel
theorem dX5_find_79 : decode cX5_find 79 = .ok (.aload_n 1, 1) := by decide +kernel
theorem dX5_find_80 : decode cX5_find 80 = .ok (.getfield 57, 3) := by decide +kernel
theorem dX5_find_83 : decode cX5_find 83 = .ok (.invokevirtual 60, 3) := by decide +kernel
theorem dX5_find_86 : decode cX5_find 86 = .ok (.aload_n 1, 1) := by decide +kernel
theorem dX5_find_87 : decode cX5_find 87 = .ok (.getfield 32, 3) := by decide +kernel
theorem dX5_find_90 : decode cX5_find 90 = .ok (.iconst 1, 1) := by decide +kernel
theorem dX5_find_91 : decode cX5_find 91 = .ok (.isub, 1) := by decide +kernel
theorem dX5_find_92 : decode cX5_find 92 = .ok (.istore_n 3, 1) := by decide +kernel
theorem dX5_find_93 : decode cX5_find 93 = .ok (.iload_n 3, 1) := by decide +kernel
theorem dX5_find_94 : decode cX5_find 94 = .ok (.ifCond .lt 45, 3) := by decide +kernel
theorem dX5_find_97 : decode cX5_find 97 = .ok (.aload_n 2, 1) := by decide +kernel
theorem dX5_find_98 : decode cX5_find 98 = .ok (.iload_n 3, 1) := by decide +kernel
theorem dX5_find_99 : decode cX5_find 99 = .ok (.invokevirtual 38, 3) := by decide +kernel
theorem dX5_find_102 : decode cX5_find 102 = .ok (.ifCond .le 31, 3) := by decide +kernel
theorem dX5_find_105 : decode cX5_find 105 = .ok (.aload_n 0, 1) := by decide +kernel
theorem dX5_find_106 : decode cX5_find 106 = .ok (.aload_n 1, 1) := by decide +kernel
theorem dX5_find_107 : decode cX5_find 107 = .ok (.iload_n 3, 1) := by decide +kernel
theorem dX5_find_108 : decode cX5_find 108 = .ok (.aload_n 1, 1) := by decide +kernel
theorem dX5_find_109 : decode cX5_find 109 = .ok (.getfield 43, 3) := by decide +kernel
theorem dX5_find_112 : decode cX5_find 112 = .ok (.iload_n 3, 1) := by decide +kernel
theorem dX5_find_113 : decode cX5_find 113 = .ok (.invokevirtual 28, 3) := by decide +kernel
theorem dX5_find_116 : decode cX5_find 116 = .ok (.invokevirtual 63, 3) := by decide +kernel
theorem dX5_find_119 : decode cX5_find 119 = .ok (.aload_n 0, 1) := by decide +kernel
theorem dX5_find_120 : decode cX5_find 120 = .ok (.aload_n 1, 1) := by decide +kernel
theorem dX5_find_121 : decode cX5_find 121 = .ok (.iload_n 3, 1) := by decide +kernel
theorem dX5_find_122 : decode cX5_find 122 = .ok (.aload_n 1, 1) := by decide +kernel
theorem dX5_find_123 : decode cX5_find 123 = .ok (.getfield 46, 3) := by decide +kernel
theorem dX5_find_126 : decode cX5_find 126 = .ok (.iload_n 3, 1) := by decide +kernel
theorem dX5_find_127 : decode cX5_find 127 = .ok (.invokevirtual 28, 3) := by decide +kernel
theorem dX5_find_130 : decode cX5_find 130 = .ok (.invokevirtual 63, 3) := by decide +kernel
theorem dX5_find_133 : decode cX5_find 133 = .ok (.iinc 3 (-1), 3) := by decide +kernel
theorem dX5_find_136 : decode cX5_find 136 = .ok (.goto (-43), 3) := by decide +kernel
theorem dX5_find_139 : decode cX5_find 139 = .ok (.return_, 1) := by decide +kernel
set_option maxRecDepth 20000 in
theorem ggX5_joinWays_X5_hoursOf : GoodIn wsX5_joinWays wsX5_hoursOf := goodIn_r _ [5, 6, 7, 8, 9, 10, 11, 12, 21, 22, 23] (by decide +kernel) (by decide +kernel)
set_option maxRecDepth 20000 in
theorem gX5_joinWays_X5_hoursOf : GoodIn wsX5_joinWays (wsV RX5 67 RX5 yX5_hoursOf wsX5_hoursOf) := goodIn_app (goodIn_of _ (by decide +kernel)) ggX5_joinWays_X5_hoursOf
set_option maxRecDepth 20000 in
theorem ggX5_joinWays_X5_shorten : GoodIn wsX5_joinWays wsX5_shorten := goodIn_r _ [16, 6, 1, 2, 3, 4, 5, 7, 8, 9, 10, 11, 12, 17, 18, 19, 20, 21, 22, 23] (by decide +kernel) (by decide +kernel)
set_option maxRecDepth 20000 in
theorem gX5_joinWays_X5_shorten : GoodIn wsX5_joinWays (wsV RX5 53 RX5 yX5_shorten wsX5_shorten) := goodIn_app (goodIn_of _ (by decide +kernel)) ggX5_joinWays_X5_shorten
theorem dX5_joinWays_0 : decode cX5_joinWays 0 = .ok (.iconst 0, 1) := by decide +kernel
theorem dX5_joinWays_1 : decode cX5_joinWays 1 = .ok (.istore_n 2, 1) := by decide +kernel
theorem dX5_joinWays_2 : decode cX5_joinWays 2 = .ok (.iload_n 2, 1) := by decide +kernel
theorem dX5_joinWays_3 : decode cX5_joinWays 3 = .ok (.iload_n 1, 1) := by decide +kernel
theorem dX5_joinWays_4 : decode cX5_joinWays 4 = .ok (.if_icmp .ge 58, 3) := by decide +kernel
theorem dX5_joinWays_7 : decode cX5_joinWays 7 = .ok (.iconst 0, 1) := by decide +kernel
theorem dX5_joinWays_8 : decode cX5_joinWays 8 = .ok (.istore_n 3, 1) := by decide +kernel
theorem dX5_joinWays_9 : decode cX5_joinWays 9 = .ok (.iload_n 3, 1) := by decide +kernel
theorem dX5_joinWays_10 : decode cX5_joinWays 10 = .ok (.iload_n 1, 1) := by decide +kernel
theorem dX5_joinWays_11 : decode cX5_joinWays 11 = .ok (.if_icmp .ge 45, 3) := by decide +kernel
theorem dX5_joinWays_14 : decode cX5_joinWays 14 = .ok (.iconst 0, 1) := by decide +kernel
theorem dX5_joinWays_15 : decode cX5_joinWays 15 = .ok (.istore 4, 2) := by decide +kernel
theorem dX5_joinWays_17 : decode cX5_joinWays 17 = .ok (.iload 4, 2) := by decide +kernel
theorem dX5_joinWays_19 : decode cX5_joinWays 19 = .ok (.iload_n 1, 1) := by decide +kernel
theorem dX5_joinWays_20 : decode cX5_joinWays 20 = .ok (.if_icmp .ge 30, 3) := by decide +kernel
theorem dX5_joinWays_23 : decode cX5_joinWays 23 = .ok (.aload_n 0, 1) := by decide +kernel
theorem dX5_joinWays_24 : decode cX5_joinWays 24 = .ok (.iload_n 3, 1) := by decide +kernel
theorem dX5_joinWays_25 : decode cX5_joinWays 25 = .ok (.iload 4, 2) := by decide +kernel
theorem dX5_joinWays_27 : decode cX5_joinWays 27 = .ok (.aload_n 0, 1) := by decide +kernel
theorem dX5_joinWays_28 : decode cX5_joinWays 28 = .ok (.iload_n 3, 1) := by decide +kernel
theorem dX5_joinWays_29 : decode cX5_joinWays 29 = .ok (.iload_n 2, 1) := by decide +kernel
theorem dX5_joinWays_30 : decode cX5_joinWays 30 = .ok (.invokevirtual 67, 3) := by decide +kernel
theorem dX5_joinWays_33 : decode cX5_joinWays 33 = .ok (.aload_n 0, 1) := by decide +kernel
theorem dX5_joinWays_34 : decode cX5_joinWays 34 = .ok (.iload_n 2, 1) := by decide +kernel
theorem dX5_joinWays_35 : decode cX5_joinWays 35 = .ok (.iload 4, 2) := by decide +kernel
theorem dX5_joinWays_37 : decode cX5_joinWays 37 = .ok (.invokevirtual 67, 3) := by decide +kernel
theorem dX5_joinWays_40 : decode cX5_joinWays 40 = .ok (.iadd, 1) := by decide +kernel
theorem dX5_joinWays_41 : decode cX5_joinWays 41 = .ok (.invokevirtual 53, 3) := by decide +kernel
theorem dX5_joinWays_44 : decode cX5_joinWays 44 = .ok (.iinc 4 1, 3) := by decide +kernel
theorem dX5_joinWays_47 : decode cX5_joinWays 47 = .ok (.goto (-30), 3) := by decide +kernel
theorem dX5_joinWays_50 : decode cX5_joinWays 50 = .ok (.iinc 3 1, 3) := by decide +kernel
theorem dX5_joinWays_53 : decode cX5_joinWays 53 = .ok (.goto (-44), 3) := by decide +kernel
theorem dX5_joinWays_56 : decode cX5_joinWays 56 = .ok (.iinc 2 1, 3) := by decide +kernel
theorem dX5_joinWays_59 : decode cX5_joinWays 59 = .ok (.goto (-57), 3) := by decide +kernel
theorem dX5_joinWays_62 : decode cX5_joinWays 62 = .ok (.return_, 1) := by decide +kernel
set_option maxRecDepth 20000 in
theorem ggX5_shorten_X5_hoursOf : GoodIn wsX5_shorten wsX5_hoursOf := goodIn_r _ [6, 1, 7, 8, 9, 10, 11, 12, 17, 18, 19] (by decide +kernel) (by decide +kernel)
set_option maxRecDepth 20000 in
theorem gX5_shorten_X5_hoursOf : GoodIn wsX5_shorten (wsV RX5 67 RX5 yX5_hoursOf wsX5_hoursOf) := goodIn_app (goodIn_of _ (by decide +kernel)) ggX5_shorten_X5_hoursOf
set_option maxRecDepth 20000 in
theorem ggX5_shorten_X3_set : GoodIn wsX5_shorten wsX3_set := goodIn_r _ [16, 12, 19] (by decide +kernel) (by decide +kernel)
set_option maxRecDepth 20000 in
theorem gX5_shorten_X3_set : GoodIn wsX5_shorten (wsV RX5 24 RX3 yX3_set wsX3_set) := goodIn_app (goodIn_of _ (by decide +kernel)) ggX5_shorten_X3_set
theorem dX5_shorten_0 : decode cX5_shorten 0 = .ok (.iload_n 3, 1) := by decide +kernel
theorem dX5_shorten_1 : decode cX5_shorten 1 = .ok (.aload_n 0, 1) := by decide +kernel
theorem dX5_shorten_2 : decode cX5_shorten 2 = .ok (.iload_n 1, 1) := by decide +kernel
theorem dX5_shorten_3 : decode cX5_shorten 3 = .ok (.iload_n 2, 1) := by decide +kernel
theorem dX5_shorten_4 : decode cX5_shorten 4 = .ok (.invokevirtual 67, 3) := by decide +kernel
theorem dX5_shorten_7 : decode cX5_shorten 7 = .ok (.if_icmp .ge 17, 3) := by decide +kernel
theorem dX5_shorten_10 : decode cX5_shorten 10 = .ok (.aload_n 0, 1) := by decide +kernel
theorem dX5_shorten_11 : decode cX5_shorten 11 = .ok (.getfield 14, 3) := by decide +kernel
theorem dX5_shorten_14 : decode cX5_shorten 14 = .ok (.iload_n 1, 1) := by decide +kernel
theorem dX5_shorten_15 : decode cX5_shorten 15 = .ok (.bipush 10, 2) := by decide +kernel
theorem dX5_shorten_17 : decode cX5_shorten 17 = .ok (.imul, 1) := by decide +kernel
theorem dX5_shorten_18 : decode cX5_shorten 18 = .ok (.iload_n 2, 1) := by decide +kernel
theorem dX5_shorten_19 : decode cX5_shorten 19 = .ok (.iadd, 1) := by decide +kernel
theorem dX5_shorten_20 : decode cX5_shorten 20 = .ok (.iload_n 3, 1) := by decide +kernel
theorem dX5_shorten_21 : decode cX5_shorten 21 = .ok (.invokevirtual 24, 3) := by decide +kernel
theorem dX5_shorten_24 : decode cX5_shorten 24 = .ok (.return_, 1) := by decide +kernel
set_option maxRecDepth 20000 in
theorem ggX5_beginWith_X0_otherEnd : GoodIn wsX5_beginWith wsX0_otherEnd := goodIn_r _ [6, 7, 8, 9, 10, 11, 12, 13, 14, 36, 37, 38, 39, 40, 41, 42, 43, 46] (by decide +kernel) (by decide +kernel)
set_option maxRecDepth 20000 in
theorem gX5_beginWith_X0_otherEnd : GoodIn wsX5_beginWith (wsV RX5 71 RX0 yX0_otherEnd wsX0_otherEnd) := goodIn_app (goodIn_of _ (by decide +kernel)) ggX5_beginWith_X0_otherEnd
set_option maxRecDepth 20000 in
theorem ggX5_beginWith_X0_hoursBetween : GoodIn wsX5_beginWith wsX0_hoursBetween := goodIn_r _ [18, 19, 20, 21, 22, 23, 24, 9, 10, 11, 12, 13, 14, 36, 37, 38, 39, 40, 41, 42, 43, 46] (by decide +kernel) (by decide +kernel)
set_option maxRecDepth 20000 in
theorem gX5_beginWith_X0_hoursBetween : GoodIn wsX5_beginWith (wsV RX5 49 RX0 yX0_hoursBetween wsX0_hoursBetween) := goodIn_app (goodIn_of _ (by decide +kernel)) ggX5_beginWith_X0_hoursBetween
set_option maxRecDepth 20000 in
theorem ggX5_beginWith_X5_hoursOf : GoodIn wsX5_beginWith wsX5_hoursOf := goodIn_r _ [29, 30, 31, 10, 11, 12, 13, 14, 44, 45, 46] (by decide +kernel) (by decide +kernel)
set_option maxRecDepth 20000 in
theorem gX5_beginWith_X5_hoursOf : GoodIn wsX5_beginWith (wsV RX5 67 RX5 yX5_hoursOf wsX5_hoursOf) := goodIn_app (goodIn_of _ (by decide +kernel)) ggX5_beginWith_X5_hoursOf
set_option maxRecDepth 20000 in
theorem ggX5_beginWith_X3_set : GoodIn wsX5_beginWith wsX3_set := goodIn_r _ [35, 14, 46] (by decide +kernel) (by decide +kernel)
set_option maxRecDepth 20000 in
theorem gX5_beginWith_X3_set : GoodIn wsX5_beginWith (wsV RX5 24 RX3 yX3_set wsX3_set) := goodIn_app (goodIn_of _ (by decide +kernel)) ggX5_beginWith_X3_set
theorem dX5_beginWith_0 : decode cX5_beginWith 0 = .ok (.aload_n 1, 1) := by decide +kernel
theorem dX5_beginWith_1 : decode cX5_beginWith 1 = .ok (.iload_n 2, 1) := by decide +kernel
theorem dX5_beginWith_2 : decode cX5_beginWith 2 = .ok (.iload_n 3, 1) := by decide +kernel
theorem dX5_beginWith_3 : decode cX5_beginWith 3 = .ok (.invokevirtual 71, 3) := by decide +kernel
theorem dX5_beginWith_6 : decode cX5_beginWith 6 = .ok (.istore 4, 2) := by decide +kernel
theorem dX5_beginWith_8 : decode cX5_beginWith 8 = .ok (.aload_n 1, 1) := by decide +kernel
theorem dX5_beginWith_9 : decode cX5_beginWith 9 = .ok (.iload_n 2, 1) := by decide +kernel
theorem dX5_beginWith_10 : decode cX5_beginWith 10 = .ok (.iload_n 3, 1) := by decide +kernel
theorem dX5_beginWith_11 : decode cX5_beginWith 11 = .ok (.iload 4, 2) := by decide +kernel
theorem dX5_beginWith_13 : decode cX5_beginWith 13 = .ok (.invokevirtual 49, 3) := by decide +kernel
theorem dX5_beginWith_16 : decode cX5_beginWith 16 = .ok (.istore 5, 2) := by decide +kernel
theorem dX5_beginWith_18 : decode cX5_beginWith 18 = .ok (.iconst 0, 1) := by decide +kernel
theorem dX5_beginWith_19 : decode cX5_beginWith 19 = .ok (.istore 6, 2) := by decide +kernel
theorem dX5_beginWith_21 : decode cX5_beginWith 21 = .ok (.iload 6, 2) := by decide +kernel
theorem dX5_beginWith_23 : decode cX5_beginWith 23 = .ok (.aload_n 1, 1) := by decide +kernel
theorem dX5_beginWith_24 : decode cX5_beginWith 24 = .ok (.getfield 57, 3) := by decide +kernel
theorem dX5_beginWith_27 : decode cX5_beginWith 27 = .ok (.if_icmp .ge 45, 3) := by decide +kernel
theorem dX5_beginWith_30 : decode cX5_beginWith 30 = .ok (.iload 5, 2) := by decide +kernel
theorem dX5_beginWith_32 : decode cX5_beginWith 32 = .ok (.aload_n 0, 1) := by decide +kernel
theorem dX5_beginWith_33 : decode cX5_beginWith 33 = .ok (.iload 4, 2) := by decide +kernel
theorem dX5_beginWith_35 : decode cX5_beginWith 35 = .ok (.iload 6, 2) := by decide +kernel
theorem dX5_beginWith_37 : decode cX5_beginWith 37 = .ok (.invokevirtual 67, 3) := by decide +kernel
theorem dX5_beginWith_40 : decode cX5_beginWith 40 = .ok (.iadd, 1) := by decide +kernel
theorem dX5_beginWith_41 : decode cX5_beginWith 41 = .ok (.aload_n 0, 1) := by decide +kernel
theorem dX5_beginWith_42 : decode cX5_beginWith 42 = .ok (.iload_n 3, 1) := by decide +kernel
theorem dX5_beginWith_43 : decode cX5_beginWith 43 = .ok (.iload 6, 2) := by decide +kernel
theorem dX5_beginWith_45 : decode cX5_beginWith 45 = .ok (.invokevirtual 67, 3) := by decide +kernel
theorem dX5_beginWith_48 : decode cX5_beginWith 48 = .ok (.if_icmp .ne 18, 3) := by decide +kernel
theorem dX5_beginWith_51 : decode cX5_beginWith 51 = .ok (.aload_n 0, 1) := by decide +kernel
theorem dX5_beginWith_52 : decode cX5_beginWith 52 = .ok (.getfield 20, 3) := by decide +kernel
theorem dX5_beginWith_55 : decode cX5_beginWith 55 = .ok (.iload_n 3, 1) := by decide +kernel
theorem dX5_beginWith_56 : decode cX5_beginWith 56 = .ok (.bipush 10, 2) := by decide +kernel
theorem dX5_beginWith_58 : decode cX5_beginWith 58 = .ok (.imul, 1) := by decide +kernel
theorem dX5_beginWith_59 : decode cX5_beginWith 59 = .ok (.iload 6, 2) := by decide +kernel
theorem dX5_beginWith_61 : decode cX5_beginWith 61 = .ok (.iadd, 1) := by decide +kernel
theorem dX5_beginWith_62 : decode cX5_beginWith 62 = .ok (.iload_n 2, 1) := by decide +kernel
theorem dX5_beginWith_63 : decode cX5_beginWith 63 = .ok (.invokevirtual 24, 3) := by decide +kernel
theorem dX5_beginWith_66 : decode cX5_beginWith 66 = .ok (.iinc 6 1, 3) := by decide +kernel
theorem dX5_beginWith_69 : decode cX5_beginWith 69 = .ok (.goto (-48), 3) := by decide +kernel
theorem dX5_beginWith_72 : decode cX5_beginWith 72 = .ok (.return_, 1) := by decide +kernel
set_option maxRecDepth 20000 in
theorem ggX5_copyFrom_X3_copyFrom : GoodIn wsX5_copyFrom wsX3_copyFrom := goodIn_r _ [7, 8, 9, 10, 11, 12, 13, 14, 15, 16, 19] (by decide +kernel) (by decide +kernel)
set_option maxRecDepth 20000 in
theorem gX5_copyFrom_X3_copyFrom : GoodIn wsX5_copyFrom (wsV RX5 74 RX3 yX3_copyFrom wsX3_copyFrom) := goodIn_app (goodIn_of _ (by decide +kernel)) ggX5_copyFrom_X3_copyFrom
theorem dX5_copyFrom_0 : decode cX5_copyFrom 0 = .ok (.aload_n 0, 1) := by decide +kernel
theorem dX5_copyFrom_1 : decode cX5_copyFrom 1 = .ok (.getfield 14, 3) := by decide +kernel
theorem dX5_copyFrom_4 : decode cX5_copyFrom 4 = .ok (.aload_n 1, 1) := by decide +kernel
theorem dX5_copyFrom_5 : decode cX5_copyFrom 5 = .ok (.getfield 14, 3) := by decide +kernel
theorem dX5_copyFrom_8 : decode cX5_copyFrom 8 = .ok (.invokevirtual 74, 3) := by decide +kernel
theorem dX5_copyFrom_11 : decode cX5_copyFrom 11 = .ok (.aload_n 0, 1) := by decide +kernel
theorem dX5_copyFrom_12 : decode cX5_copyFrom 12 = .ok (.getfield 20, 3) := by decide +kernel
theorem dX5_copyFrom_15 : decode cX5_copyFrom 15 = .ok (.aload_n 1, 1) := by decide +kernel
theorem dX5_copyFrom_16 : decode cX5_copyFrom 16 = .ok (.getfield 20, 3) := by decide +kernel
theorem dX5_copyFrom_19 : decode cX5_copyFrom 19 = .ok (.invokevirtual 74, 3) := by decide +kernel
theorem dX5_copyFrom_22 : decode cX5_copyFrom 22 = .ok (.return_, 1) := by decide +kernel
set_option maxRecDepth 20000 in
theorem ggX6_init_X0_init : GoodIn wsX6_init wsX0_init := goodIn_r _ [14, 15, 2, 3, 16, 17, 18, 19, 20, 21, 22, 23, 24, 25, 26, 27, 28, 29, 30, 31, 32, 33, 111, 93, 94, 95, 96, 97, 98, 99, 100] (by decide +kernel) (by decide +kernel)
set_option maxRecDepth 20000 in
theorem gX6_init_X0_init_n9 : GoodIn wsX6_init (wsX0_init) := ggX6_init_X0_init
set_option maxRecDepth 20000 in
theorem ggX6_init_X4_init : GoodIn wsX6_init wsX4_init := goodIn_r _ [36, 37, 2, 3, 38, 39, 40, 41, 42, 43, 44, 45, 46, 47, 48, 49, 50, 17, 18, 51, 52, 53, 54, 55, 56, 57, 58, 59, 60, 61, 25, 26, 27, 28, 29, 30, 31, 32, 33, 62, 63, 64, 65, 66, 67, 68, 69, 70, 71, 72, 73, 74, 75, 76, 77, 78, 79, 80, 81, 82, 83, 84, 85, 86, 87, 88, 89, 90, 91, 92, 112, 113, 104, 105, 106, 107, 108, 109, 110, 114, 115, 116, 117, 118, 119, 120, 121, 122, 123, 124, 125, 126, 127, 128, 129, 130, 131, 111] (by decide +kernel) (by decide +kernel)
set_option maxRecDepth 20000 in
theorem gX6_init_X4_init : GoodIn wsX6_init (wsX4_init) := ggX6_init_X4_init
theorem dX6_init_0 : decode cX6_init 0 = .ok (.aload_n 0, 1) := by decide +kernel
theorem dX6_init_1 : decode cX6_init 1 = .ok (.invokespecial 1, 3) := by decide +kernel
theorem dX6_init_4 : decode cX6_init 4 = .ok (.new 7, 3) := by decide +kernel
theorem dX6_init_7 : decode cX6_init 7 = .ok (.dup, 1) := by decide +kernel
theorem dX6_init_8 : decode cX6_init 8 = .ok (.invokespecial 9, 3) := by decide +kernel
theorem dX6_init_11 : decode cX6_init 11 = .ok (.astore_n 1, 1) := by decide +kernel
theorem dX6_init_12 : decode cX6_init 12 = .ok (.aload_n 0, 1) := by decide +kernel
theorem dX6_init_13 : decode cX6_init 13 = .ok (.aload_n 1, 1) := by decide +kernel
theorem dX6_init_14 : decode cX6_init 14 = .ok (.putfield 10, 3) := by decide +kernel
theorem dX6_init_17 : decode cX6_init 17 = .ok (.aload_n 0, 1) := by decide +kernel
theorem dX6_init_18 : decode cX6_init 18 = .ok (.new 16, 3) := by decide +kernel
theorem dX6_init_21 : decode cX6_init 21 = .ok (.dup, 1) := by decide +kernel
theorem dX6_init_22 : decode cX6_init 22 = .ok (.aload_n 1, 1) := by decide +kernel
theorem dX6_init_23 : decode cX6_init 23 = .ok (.invokespecial 18, 3) := by decide +kernel
theorem dX6_init_26 : decode cX6_init 26 = .ok (.putfield 21, 3) := by decide +kernel
theorem dX6_init_29 : decode cX6_init 29 = .ok (.aload_n 0, 1) := by decide +kernel
theorem dX6_init_30 : decode cX6_init 30 = .ok (.new 16, 3) := by decide +kernel
theorem dX6_init_33 : decode cX6_init 33 = .ok (.dup, 1) := by decide +kernel
theorem dX6_init_34 : decode cX6_init 34 = .ok (.aload_n 1, 1) := by decide +kernel
theorem dX6_init_35 : decode cX6_init 35 = .ok (.invokespecial 18, 3) := by decide +kernel
theorem dX6_init_38 : decode cX6_init 38 = .ok (.putfield 25, 3) := by decide +kernel
theorem dX6_init_41 : decode cX6_init 41 = .ok (.return_, 1) := by decide +kernel
set_option maxRecDepth 20000 in
theorem ggX6_addStation_X6_isWithin : GoodIn wsX6_addStation wsX6_isWithin := goodIn_r _ [9] (by decide +kernel) (by decide +kernel)
set_option maxRecDepth 20000 in
theorem gX6_addStation_X6_isWithin : GoodIn wsX6_addStation (va_wsS RX6 28 yX6_isWithin wsX6_isWithin) := goodIn_app (goodIn_of _ (by decide +kernel)) ggX6_addStation_X6_isWithin
set_option maxRecDepth 20000 in
theorem ggX6_addStation_X0_putStation : GoodIn wsX6_addStation wsX0_putStation := goodIn_r _ [14, 15, 16, 17, 18, 19, 20, 21, 22, 26, 27, 28, 29, 30, 31, 32, 33, 34] (by decide +kernel) (by decide +kernel)
set_option maxRecDepth 20000 in
theorem gX6_addStation_X0_putStation : GoodIn wsX6_addStation (wsV RX6 48 RX0 yX0_putStation wsX0_putStation) := goodIn_app (goodIn_of _ (by decide +kernel)) ggX6_addStation_X0_putStation
theorem dX6_addStation_0 : decode cX6_addStation 0 = .ok (.iload_n 1, 1) := by decide +kernel
theorem dX6_addStation_1 : decode cX6_addStation 1 = .ok (.iconst 0, 1) := by decide +kernel
theorem dX6_addStation_2 : decode cX6_addStation 2 = .ok (.sipush 4000, 3) := by decide +kernel
theorem dX6_addStation_5 : decode cX6_addStation 5 = .ok (.invokestatic 28, 3) := by decide +kernel
theorem dX6_addStation_8 : decode cX6_addStation 8 = .ok (.ifCond .ne 13, 3) := by decide +kernel
theorem dX6_addStation_11 : decode cX6_addStation 11 = .ok (.new 32, 3) := by decide +kernel
theorem dX6_addStation_14 : decode cX6_addStation 14 = .ok (.dup, 1) := by decide +kernel
theorem dX6_addStation_15 : decode cX6_addStation 15 = .ok (.ldc 34, 2) := by decide +kernel
theorem dX6_addStation_17 : decode cX6_addStation 17 = .ok (.invokespecial 36, 3) := by decide +kernel
theorem dX6_addStation_20 : decode cX6_addStation 20 = .ok (.athrow, 1) := by decide +kernel
theorem dX6_addStation_21 : decode cX6_addStation 21 = .ok (.aload_n 0, 1) := by decide +kernel
theorem dX6_addStation_22 : decode cX6_addStation 22 = .ok (.getfield 10, 3) := by decide +kernel
theorem dX6_addStation_25 : decode cX6_addStation 25 = .ok (.getfield 39, 3) := by decide +kernel
theorem dX6_addStation_28 : decode cX6_addStation 28 = .ok (.bipush 10, 2) := by decide +kernel
theorem dX6_addStation_30 : decode cX6_addStation 30 = .ok (.if_icmp .lt 13, 3) := by decide +kernel
theorem dX6_addStation_33 : decode cX6_addStation 33 = .ok (.new 43, 3) := by decide +kernel
theorem dX6_addStation_36 : decode cX6_addStation 36 = .ok (.dup, 1) := by decide +kernel
theorem dX6_addStation_37 : decode cX6_addStation 37 = .ok (.ldc 45, 2) := by decide +kernel
theorem dX6_addStation_39 : decode cX6_addStation 39 = .ok (.invokespecial 47, 3) := by decide +kernel
theorem dX6_addStation_42 : decode cX6_addStation 42 = .ok (.athrow, 1) := by decide +kernel
theorem dX6_addStation_43 : decode cX6_addStation 43 = .ok (.aload_n 0, 1) := by decide +kernel
theorem dX6_addStation_44 : decode cX6_addStation 44 = .ok (.getfield 10, 3) := by decide +kernel
theorem dX6_addStation_47 : decode cX6_addStation 47 = .ok (.iload_n 1, 1) := by decide +kernel
theorem dX6_addStation_48 : decode cX6_addStation 48 = .ok (.invokevirtual 48, 3) := by decide +kernel
theorem dX6_addStation_51 : decode cX6_addStation 51 = .ok (.ireturn, 1) := by decide +kernel
set_option maxRecDepth 20000 in
theorem ggX6_setSight_X6_isStation : GoodIn wsX6_setSight wsX6_isStation := goodIn_r _ [10, 5, 11, 12, 9, 13, 42, 43, 44, 45, 46, 47, 48, 49, 50, 51, 52] (by decide +kernel) (by decide +kernel)
set_option maxRecDepth 20000 in
theorem gX6_setSight_X6_isStation : GoodIn wsX6_setSight (wsV RX6 52 RX6 yX6_isStation wsX6_isStation) := goodIn_app (goodIn_of _ (by decide +kernel)) ggX6_setSight_X6_isStation
set_option maxRecDepth 20000 in
theorem ggX6_setSight_X0_putSight : GoodIn wsX6_setSight wsX0_putSight := goodIn_r _ [18, 19, 20, 21, 22, 23, 24, 25, 26, 9, 27, 28, 29, 30, 31, 32, 33, 45, 46, 47, 48, 49, 50, 51, 52, 53] (by decide +kernel) (by decide +kernel)
set_option maxRecDepth 20000 in
theorem gX6_setSight_X0_putSight : GoodIn wsX6_setSight (wsV RX6 63 RX0 yX0_putSight wsX0_putSight) := goodIn_app (goodIn_of _ (by decide +kernel)) ggX6_setSight_X0_putSight
set_option maxRecDepth 20000 in
theorem ggX6_setSight_X3_get : GoodIn wsX6_setSight wsX3_get := goodIn_r _ [24, 25, 53] (by decide +kernel) (by decide +kernel)
set_option maxRecDepth 20000 in
theorem gX6_setSight_X3_get : GoodIn wsX6_setSight (wsV RX6 71 RX3 yX3_get wsX3_get) := goodIn_app (goodIn_of _ (by decide +kernel)) ggX6_setSight_X3_get
set_option maxRecDepth 20000 in
theorem ggX6_setSight_J6_bitCount_0f7a4 : GoodIn wsX6_setSight wsJ6_bitCount_0f7a4 := goodIn_r _ [38, 39, 40, 41] (by decide +kernel) (by decide +kernel)
set_option maxRecDepth 20000 in
theorem gX6_setSight_J6_bitCount_0f7a4 : GoodIn wsX6_setSight (va_wsS RX6 76 yJ6_bitCount_0f7a4 wsJ6_bitCount_0f7a4) := goodIn_app (goodIn_of _ (by decide +kernel)) ggX6_setSight_J6_bitCount_0f7a4
theorem dX6_setSight_0 : decode cX6_setSight 0 = .ok (.aload_n 0, 1) := by decide +kernel
theorem dX6_setSight_1 : decode cX6_setSight 1 = .ok (.iload_n 1, 1) := by decide +kernel
theorem dX6_setSight_2 : decode cX6_setSight 2 = .ok (.invokevirtual 52, 3) := by decide +kernel
theorem dX6_setSight_5 : decode cX6_setSight 5 = .ok (.ifCond .eq 11, 3) := by decide +kernel
theorem dX6_setSight_8 : decode cX6_setSight 8 = .ok (.aload_n 0, 1) := by decide +kernel
theorem dX6_setSight_9 : decode cX6_setSight 9 = .ok (.iload_n 2, 1) := by decide +kernel
theorem dX6_setSight_10 : decode cX6_setSight 10 = .ok (.invokevirtual 52, 3) := by decide +kernel
theorem dX6_setSight_13 : decode cX6_setSight 13 = .ok (.ifCond .ne 13, 3) := by decide +kernel
theorem dX6_setSight_16 : decode cX6_setSight 16 = .ok (.new 56, 3) := by decide +kernel
theorem dX6_setSight_19 : decode cX6_setSight 19 = .ok (.dup, 1) := by decide +kernel
theorem dX6_setSight_20 : decode cX6_setSight 20 = .ok (.ldc 58, 2) := by decide +kernel
theorem dX6_setSight_22 : decode cX6_setSight 22 = .ok (.invokespecial 60, 3) := by decide +kernel
theorem dX6_setSight_25 : decode cX6_setSight 25 = .ok (.athrow, 1) := by decide +kernel
theorem dX6_setSight_26 : decode cX6_setSight 26 = .ok (.iload_n 1, 1) := by decide +kernel
theorem dX6_setSight_27 : decode cX6_setSight 27 = .ok (.iload_n 2, 1) := by decide +kernel
theorem dX6_setSight_28 : decode cX6_setSight 28 = .ok (.if_icmp .ne 13, 3) := by decide +kernel
theorem dX6_setSight_31 : decode cX6_setSight 31 = .ok (.new 32, 3) := by decide +kernel
theorem dX6_setSight_34 : decode cX6_setSight 34 = .ok (.dup, 1) := by decide +kernel
theorem dX6_setSight_35 : decode cX6_setSight 35 = .ok (.ldc 61, 2) := by decide +kernel
theorem dX6_setSight_37 : decode cX6_setSight 37 = .ok (.invokespecial 36, 3) := by decide +kernel
theorem dX6_setSight_40 : decode cX6_setSight 40 = .ok (.athrow, 1) := by decide +kernel
theorem dX6_setSight_41 : decode cX6_setSight 41 = .ok (.aload_n 0, 1) := by decide +kernel
theorem dX6_setSight_42 : decode cX6_setSight 42 = .ok (.getfield 10, 3) := by decide +kernel
theorem dX6_setSight_45 : decode cX6_setSight 45 = .ok (.iload_n 1, 1) := by decide +kernel
theorem dX6_setSight_46 : decode cX6_setSight 46 = .ok (.iload_n 2, 1) := by decide +kernel
theorem dX6_setSight_47 : decode cX6_setSight 47 = .ok (.iload_n 3, 1) := by decide +kernel
theorem dX6_setSight_48 : decode cX6_setSight 48 = .ok (.invokevirtual 63, 3) := by decide +kernel
theorem dX6_setSight_51 : decode cX6_setSight 51 = .ok (.aload_n 0, 1) := by decide +kernel
theorem dX6_setSight_52 : decode cX6_setSight 52 = .ok (.getfield 10, 3) := by decide +kernel
theorem dX6_setSight_55 : decode cX6_setSight 55 = .ok (.iload_n 2, 1) := by decide +kernel
theorem dX6_setSight_56 : decode cX6_setSight 56 = .ok (.iload_n 1, 1) := by decide +kernel
theorem dX6_setSight_57 : decode cX6_setSight 57 = .ok (.iload_n 3, 1) := by decide +kernel
theorem dX6_setSight_58 : decode cX6_setSight 58 = .ok (.invokevirtual 63, 3) := by decide +kernel
theorem dX6_setSight_61 : decode cX6_setSight 61 = .ok (.aload_n 0, 1) := by decide +kernel
theorem dX6_setSight_62 : decode cX6_setSight 62 = .ok (.getfield 10, 3) := by decide +kernel
theorem dX6_setSight_65 : decode cX6_setSight 65 = .ok (.getfield 67, 3) := by decide +kernel
theorem dX6_setSight_68 : decode cX6_setSight 68 = .ok (.iload_n 1, 1) := by decide +kernel
theorem dX6_setSight_69 : decode cX6_setSight 69 = .ok (.invokevirtual 71, 3) := by decide +kernel
theorem dX6_setSight_72 : decode cX6_setSight 72 = .ok (.invokestatic 76, 3) := by decide +kernel
theorem dX6_setSight_75 : decode cX6_setSight 75 = .ok (.ireturn, 1) := by decide +kernel
set_option maxRecDepth 20000 in
theorem ggX6_setFog_X6_isStation : GoodIn wsX6_setFog wsX6_isStation := goodIn_r _ [8, 3, 9, 10, 7, 11, 25, 26, 27, 28, 29, 30, 31, 32, 33, 34, 35] (by decide +kernel) (by decide +kernel)
set_option maxRecDepth 20000 in
theorem gX6_setFog_X6_isStation : GoodIn wsX6_setFog (wsV RX6 52 RX6 yX6_isStation wsX6_isStation) := goodIn_app (goodIn_of _ (by decide +kernel)) ggX6_setFog_X6_isStation
set_option maxRecDepth 20000 in
theorem ggX6_setFog_X6_with : GoodIn wsX6_setFog wsX6_with := goodIn_r _ [14] (by decide +kernel) (by decide +kernel)
set_option maxRecDepth 20000 in
theorem gX6_setFog_X6_with : GoodIn wsX6_setFog (va_wsS RX6 84 yX6_with wsX6_with) := goodIn_app (goodIn_of _ (by decide +kernel)) ggX6_setFog_X6_with
set_option maxRecDepth 20000 in
theorem ggX6_setFog_X6_without : GoodIn wsX6_setFog wsX6_without := goodIn_r _ [17] (by decide +kernel) (by decide +kernel)
set_option maxRecDepth 20000 in
theorem gX6_setFog_X6_without : GoodIn wsX6_setFog (va_wsS RX6 88 yX6_without wsX6_without) := goodIn_app (goodIn_of _ (by decide +kernel)) ggX6_setFog_X6_without
set_option maxRecDepth 20000 in
theorem ggX6_setFog_J6_bitCount_0f7a4 : GoodIn wsX6_setFog wsJ6_bitCount_0f7a4 := goodIn_r _ [21, 22, 23, 24] (by decide +kernel) (by decide +kernel)
set_option maxRecDepth 20000 in
theorem gX6_setFog_J6_bitCount_0f7a4 : GoodIn wsX6_setFog (va_wsS RX6 76 yJ6_bitCount_0f7a4 wsJ6_bitCount_0f7a4) := goodIn_app (goodIn_of _ (by decide +kernel)) ggX6_setFog_J6_bitCount_0f7a4
theorem dX6_setFog_0 : decode cX6_setFog 0 = .ok (.aload_n 0, 1) := by decide +kernel
theorem dX6_setFog_1 : decode cX6_setFog 1 = .ok (.iload_n 1, 1) := by decide +kernel
theorem dX6_setFog_2 : decode cX6_setFog 2 = .ok (.invokevirtual 52, 3) := by decide +kernel
theorem dX6_setFog_5 : decode cX6_setFog 5 = .ok (.ifCond .ne 13, 3) := by decide +kernel
theorem dX6_setFog_8 : decode cX6_setFog 8 = .ok (.new 56, 3) := by decide +kernel
theorem dX6_setFog_11 : decode cX6_setFog 11 = .ok (.dup, 1) := by decide +kernel
theorem dX6_setFog_12 : decode cX6_setFog 12 = .ok (.ldc 58, 2) := by decide +kernel
theorem dX6_setFog_14 : decode cX6_setFog 14 = .ok (.invokespecial 60, 3) := by decide +kernel
theorem dX6_setFog_17 : decode cX6_setFog 17 = .ok (.athrow, 1) := by decide +kernel
theorem dX6_setFog_18 : decode cX6_setFog 18 = .ok (.aload_n 0, 1) := by decide +kernel
theorem dX6_setFog_19 : decode cX6_setFog 19 = .ok (.getfield 10, 3) := by decide +kernel
theorem dX6_setFog_22 : decode cX6_setFog 22 = .ok (.iload_n 2, 1) := by decide +kernel
theorem dX6_setFog_23 : decode cX6_setFog 23 = .ok (.ifCond .eq 17, 3) := by decide +kernel
theorem dX6_setFog_26 : decode cX6_setFog 26 = .ok (.aload_n 0, 1) := by decide +kernel
theorem dX6_setFog_27 : decode cX6_setFog 27 = .ok (.getfield 10, 3) := by decide +kernel
theorem dX6_setFog_30 : decode cX6_setFog 30 = .ok (.getfield 81, 3) := by decide +kernel
theorem dX6_setFog_33 : decode cX6_setFog 33 = .ok (.iload_n 1, 1) := by decide +kernel
theorem dX6_setFog_34 : decode cX6_setFog 34 = .ok (.invokestatic 84, 3) := by decide +kernel
theorem dX6_setFog_37 : decode cX6_setFog 37 = .ok (.goto 14, 3) := by decide +kernel
theorem dX6_setFog_40 : decode cX6_setFog 40 = .ok (.aload_n 0, 1) := by decide +kernel
theorem dX6_setFog_41 : decode cX6_setFog 41 = .ok (.getfield 10, 3) := by decide +kernel
theorem dX6_setFog_44 : decode cX6_setFog 44 = .ok (.getfield 81, 3) := by decide +kernel
theorem dX6_setFog_47 : decode cX6_setFog 47 = .ok (.iload_n 1, 1) := by decide +kernel
theorem dX6_setFog_48 : decode cX6_setFog 48 = .ok (.invokestatic 88, 3) := by decide +kernel
theorem dX6_setFog_51 : decode cX6_setFog 51 = .ok (.putfield 81, 3) := by decide +kernel
theorem dX6_setFog_54 : decode cX6_setFog 54 = .ok (.aload_n 0, 1) := by decide +kernel
theorem dX6_setFog_55 : decode cX6_setFog 55 = .ok (.getfield 10, 3) := by decide +kernel
theorem dX6_setFog_58 : decode cX6_setFog 58 = .ok (.getfield 81, 3) := by decide +kernel
theorem dX6_setFog_61 : decode cX6_setFog 61 = .ok (.invokestatic 76, 3) := by decide +kernel
theorem dX6_setFog_64 : decode cX6_setFog 64 = .ok (.ireturn, 1) := by decide +kernel
set_option maxRecDepth 20000 in
theorem ggX6_build_X6_isStation : GoodIn wsX6_build wsX6_isStation := goodIn_r _ [12, 7, 13, 14, 11, 15, 31, 32, 33, 34, 35, 36, 37, 38, 39, 40, 41] (by decide +kernel) (by decide +kernel)
set_option maxRecDepth 20000 in
theorem gX6_build_X6_isStation : GoodIn wsX6_build (wsV RX6 52 RX6 yX6_isStation wsX6_isStation) := goodIn_app (goodIn_of _ (by decide +kernel)) ggX6_build_X6_isStation
set_option maxRecDepth 20000 in
theorem ggX6_build_X6_isWithin : GoodIn wsX6_build wsX6_isWithin := goodIn_r _ [15] (by decide +kernel) (by decide +kernel)
set_option maxRecDepth 20000 in
theorem gX6_build_X6_isWithin : GoodIn wsX6_build (va_wsS RX6 28 yX6_isWithin wsX6_isWithin) := goodIn_app (goodIn_of _ (by decide +kernel)) ggX6_build_X6_isWithin
set_option maxRecDepth 20000 in
theorem ggX6_build_X0_putRoad : GoodIn wsX6_build wsX0_putRoad := goodIn_r _ [20, 21, 22, 23, 24, 25, 26, 27, 28, 29, 30, 34, 35, 36, 37, 38, 39, 40, 41, 42] (by decide +kernel) (by decide +kernel)
set_option maxRecDepth 20000 in
theorem gX6_build_X0_putRoad : GoodIn wsX6_build (wsV RX6 98 RX0 yX0_putRoad wsX0_putRoad) := goodIn_app (goodIn_of _ (by decide +kernel)) ggX6_build_X0_putRoad
theorem dX6_build_0 : decode cX6_build 0 = .ok (.aload_n 0, 1) := by decide +kernel
theorem dX6_build_1 : decode cX6_build 1 = .ok (.iload_n 1, 1) := by decide +kernel
theorem dX6_build_2 : decode cX6_build 2 = .ok (.invokevirtual 52, 3) := by decide +kernel
theorem dX6_build_5 : decode cX6_build 5 = .ok (.ifCond .eq 11, 3) := by decide +kernel
theorem dX6_build_8 : decode cX6_build 8 = .ok (.aload_n 0, 1) := by decide +kernel
theorem dX6_build_9 : decode cX6_build 9 = .ok (.iload_n 2, 1) := by decide +kernel
theorem dX6_build_10 : decode cX6_build 10 = .ok (.invokevirtual 52, 3) := by decide +kernel
theorem dX6_build_13 : decode cX6_build 13 = .ok (.ifCond .ne 13, 3) := by decide +kernel
theorem dX6_build_16 : decode cX6_build 16 = .ok (.new 56, 3) := by decide +kernel
theorem dX6_build_19 : decode cX6_build 19 = .ok (.dup, 1) := by decide +kernel
theorem dX6_build_20 : decode cX6_build 20 = .ok (.ldc 58, 2) := by decide +kernel
theorem dX6_build_22 : decode cX6_build 22 = .ok (.invokespecial 60, 3) := by decide +kernel
theorem dX6_build_25 : decode cX6_build 25 = .ok (.athrow, 1) := by decide +kernel
theorem dX6_build_26 : decode cX6_build 26 = .ok (.iload_n 1, 1) := by decide +kernel
theorem dX6_build_27 : decode cX6_build 27 = .ok (.iload_n 2, 1) := by decide +kernel
theorem dX6_build_28 : decode cX6_build 28 = .ok (.if_icmp .eq 13, 3) := by decide +kernel
theorem dX6_build_31 : decode cX6_build 31 = .ok (.iload_n 3, 1) := by decide +kernel
theorem dX6_build_32 : decode cX6_build 32 = .ok (.iconst 1, 1) := by decide +kernel
theorem dX6_build_33 : decode cX6_build 33 = .ok (.bipush 20, 2) := by decide +kernel
theorem dX6_build_35 : decode cX6_build 35 = .ok (.invokestatic 28, 3) := by decide +kernel
theorem dX6_build_38 : decode cX6_build 38 = .ok (.ifCond .ne 13, 3) := by decide +kernel
theorem dX6_build_41 : decode cX6_build 41 = .ok (.new 32, 3) := by decide +kernel
theorem dX6_build_44 : decode cX6_build 44 = .ok (.dup, 1) := by decide +kernel
theorem dX6_build_45 : decode cX6_build 45 = .ok (.ldc 91, 2) := by decide +kernel
theorem dX6_build_47 : decode cX6_build 47 = .ok (.invokespecial 36, 3) := by decide +kernel
theorem dX6_build_50 : decode cX6_build 50 = .ok (.athrow, 1) := by decide +kernel
theorem dX6_build_51 : decode cX6_build 51 = .ok (.aload_n 0, 1) := by decide +kernel
theorem dX6_build_52 : decode cX6_build 52 = .ok (.getfield 10, 3) := by decide +kernel
theorem dX6_build_55 : decode cX6_build 55 = .ok (.getfield 93, 3) := by decide +kernel
theorem dX6_build_58 : decode cX6_build 58 = .ok (.bipush 15, 2) := by decide +kernel
theorem dX6_build_60 : decode cX6_build 60 = .ok (.if_icmp .lt 13, 3) := by decide +kernel
theorem dX6_build_63 : decode cX6_build 63 = .ok (.new 43, 3) := by decide +kernel
theorem dX6_build_66 : decode cX6_build 66 = .ok (.dup, 1) := by decide +kernel
theorem dX6_build_67 : decode cX6_build 67 = .ok (.ldc 96, 2) := by decide +kernel
theorem dX6_build_69 : decode cX6_build 69 = .ok (.invokespecial 47, 3) := by decide +kernel
theorem dX6_build_72 : decode cX6_build 72 = .ok (.athrow, 1) := by decide +kernel
theorem dX6_build_73 : decode cX6_build 73 = .ok (.aload_n 0, 1) := by decide +kernel
theorem dX6_build_74 : decode cX6_build 74 = .ok (.getfield 10, 3) := by decide +kernel
theorem dX6_build_77 : decode cX6_build 77 = .ok (.iload_n 1, 1) := by decide +kernel
theorem dX6_build_78 : decode cX6_build 78 = .ok (.iload_n 2, 1) := by decide +kernel
theorem dX6_build_79 : decode cX6_build 79 = .ok (.iload_n 3, 1) := by decide +kernel
theorem dX6_build_80 : decode cX6_build 80 = .ok (.invokevirtual 98, 3) := by decide +kernel
theorem dX6_build_83 : decode cX6_build 83 = .ok (.ireturn, 1) := by decide +kernel
set_option maxRecDepth 20000 in
theorem ggX6_addMule_X6_isRoad : GoodIn wsX6_addMule wsX6_isRoad := goodIn_r _ [13, 8, 14, 15, 12, 16, 95, 96, 97, 111, 112, 113, 114, 115, 116, 117, 118] (by decide +kernel) (by decide +kernel)
set_option maxRecDepth 20000 in
theorem gX6_addMule_X6_isRoad : GoodIn wsX6_addMule (wsV RX6 102 RX6 yX6_isRoad wsX6_isRoad) := goodIn_app (goodIn_of _ (by decide +kernel)) ggX6_addMule_X6_isRoad
set_option maxRecDepth 20000 in
theorem ggX6_addMule_X6_isWithin : GoodIn wsX6_addMule wsX6_isWithin := goodIn_r _ [16] (by decide +kernel) (by decide +kernel)
set_option maxRecDepth 20000 in
theorem gX6_addMule_X6_isWithin : GoodIn wsX6_addMule (va_wsS RX6 28 yX6_isWithin wsX6_isWithin) := goodIn_app (goodIn_of _ (by decide +kernel)) ggX6_addMule_X6_isWithin
set_option maxRecDepth 20000 in
theorem ggX6_addMule_X3_get : GoodIn wsX6_addMule wsX3_get := goodIn_r _ [21, 22, 119] (by decide +kernel) (by decide +kernel)
set_option maxRecDepth 20000 in
theorem gX6_addMule_X3_get : GoodIn wsX6_addMule (wsV RX6 71 RX3 yX3_get wsX3_get) := goodIn_app (goodIn_of _ (by decide +kernel)) ggX6_addMule_X3_get
set_option maxRecDepth 20000 in
theorem ggX6_addMule_X4_putMule : GoodIn wsX6_addMule wsX4_putMule := goodIn_r _ [27, 28, 29, 30, 31, 32, 33, 34, 35, 36, 37, 38, 39, 40, 41, 42, 43, 44, 20, 45, 22, 46, 47, 48, 49, 50, 18, 19, 21, 51, 52, 53, 54, 55, 56, 57, 58, 59, 60, 61, 62, 63, 64, 65, 66, 67, 68, 69, 70, 71, 72, 73, 74, 75, 76, 77, 78, 79, 80, 81, 82, 83, 84, 85, 86, 87, 88, 89, 90, 91, 92, 93, 94, 98, 99, 100, 101, 102, 103, 104, 105, 106, 107, 108, 109, 110, 119, 111, 112, 113, 114, 115, 116, 117, 118, 120, 121] (by decide +kernel) (by decide +kernel)
set_option maxRecDepth 20000 in
theorem gX6_addMule_X4_putMule : GoodIn wsX6_addMule (wsV RX6 126 RX4 yX4_putMule wsX4_putMule) := goodIn_app (goodIn_of _ (by decide +kernel)) ggX6_addMule_X4_putMule
theorem dX6_addMule_0 : decode cX6_addMule 0 = .ok (.aload_n 0, 1) := by decide +kernel
theorem dX6_addMule_1 : decode cX6_addMule 1 = .ok (.iload_n 1, 1) := by decide +kernel
theorem dX6_addMule_2 : decode cX6_addMule 2 = .ok (.invokevirtual 102, 3) := by decide +kernel
theorem dX6_addMule_5 : decode cX6_addMule 5 = .ok (.ifCond .ne 13, 3) := by decide +kernel
theorem dX6_addMule_8 : decode cX6_addMule 8 = .ok (.new 56, 3) := by decide +kernel
theorem dX6_addMule_11 : decode cX6_addMule 11 = .ok (.dup, 1) := by decide +kernel
theorem dX6_addMule_12 : decode cX6_addMule 12 = .ok (.ldc 105, 2) := by decide +kernel
theorem dX6_addMule_14 : decode cX6_addMule 14 = .ok (.invokespecial 60, 3) := by decide +kernel
theorem dX6_addMule_17 : decode cX6_addMule 17 = .ok (.athrow, 1) := by decide +kernel
theorem dX6_addMule_18 : decode cX6_addMule 18 = .ok (.iload_n 2, 1) := by decide +kernel
theorem dX6_addMule_19 : decode cX6_addMule 19 = .ok (.iconst 1, 1) := by decide +kernel
theorem dX6_addMule_20 : decode cX6_addMule 20 = .ok (.bipush 6, 2) := by decide +kernel
theorem dX6_addMule_22 : decode cX6_addMule 22 = .ok (.invokestatic 28, 3) := by decide +kernel
theorem dX6_addMule_25 : decode cX6_addMule 25 = .ok (.ifCond .ne 13, 3) := by decide +kernel
theorem dX6_addMule_28 : decode cX6_addMule 28 = .ok (.new 32, 3) := by decide +kernel
theorem dX6_addMule_31 : decode cX6_addMule 31 = .ok (.dup, 1) := by decide +kernel
theorem dX6_addMule_32 : decode cX6_addMule 32 = .ok (.ldc 107, 2) := by decide +kernel
theorem dX6_addMule_34 : decode cX6_addMule 34 = .ok (.invokespecial 36, 3) := by decide +kernel
theorem dX6_addMule_37 : decode cX6_addMule 37 = .ok (.athrow, 1) := by decide +kernel
theorem dX6_addMule_38 : decode cX6_addMule 38 = .ok (.aload_n 0, 1) := by decide +kernel
theorem dX6_addMule_39 : decode cX6_addMule 39 = .ok (.getfield 21, 3) := by decide +kernel
theorem dX6_addMule_42 : decode cX6_addMule 42 = .ok (.getfield 109, 3) := by decide +kernel
theorem dX6_addMule_45 : decode cX6_addMule 45 = .ok (.getfield 113, 3) := by decide +kernel
theorem dX6_addMule_48 : decode cX6_addMule 48 = .ok (.bipush 12, 2) := by decide +kernel
theorem dX6_addMule_50 : decode cX6_addMule 50 = .ok (.if_icmp .lt 13, 3) := by decide +kernel
theorem dX6_addMule_53 : decode cX6_addMule 53 = .ok (.new 43, 3) := by decide +kernel
theorem dX6_addMule_56 : decode cX6_addMule 56 = .ok (.dup, 1) := by decide +kernel
theorem dX6_addMule_57 : decode cX6_addMule 57 = .ok (.ldc 118, 2) := by decide +kernel
theorem dX6_addMule_59 : decode cX6_addMule 59 = .ok (.invokespecial 47, 3) := by decide +kernel
theorem dX6_addMule_62 : decode cX6_addMule 62 = .ok (.athrow, 1) := by decide +kernel
theorem dX6_addMule_63 : decode cX6_addMule 63 = .ok (.aload_n 0, 1) := by decide +kernel
theorem dX6_addMule_64 : decode cX6_addMule 64 = .ok (.getfield 21, 3) := by decide +kernel
theorem dX6_addMule_67 : decode cX6_addMule 67 = .ok (.iload_n 1, 1) := by decide +kernel
theorem dX6_addMule_68 : decode cX6_addMule 68 = .ok (.iload_n 2, 1) := by decide +kernel
theorem dX6_addMule_69 : decode cX6_addMule 69 = .ok (.iload_n 3, 1) := by decide +kernel
theorem dX6_addMule_70 : decode cX6_addMule 70 = .ok (.ifCond .eq 17, 3) := by decide +kernel
theorem dX6_addMule_73 : decode cX6_addMule 73 = .ok (.aload_n 0, 1) := by decide +kernel
theorem dX6_addMule_74 : decode cX6_addMule 74 = .ok (.getfield 10, 3) := by decide +kernel
theorem dX6_addMule_77 : decode cX6_addMule 77 = .ok (.getfield 120, 3) := by decide +kernel
theorem dX6_addMule_80 : decode cX6_addMule 80 = .ok (.iload_n 1, 1) := by decide +kernel
theorem dX6_addMule_81 : decode cX6_addMule 81 = .ok (.invokevirtual 71, 3) := by decide +kernel
theorem dX6_addMule_84 : decode cX6_addMule 84 = .ok (.goto 14, 3) := by decide +kernel
theorem dX6_addMule_87 : decode cX6_addMule 87 = .ok (.aload_n 0, 1) := by decide +kernel
theorem dX6_addMule_88 : decode cX6_addMule 88 = .ok (.getfield 10, 3) := by decide +kernel
theorem dX6_addMule_91 : decode cX6_addMule 91 = .ok (.getfield 123, 3) := by decide +kernel
theorem dX6_addMule_94 : decode cX6_addMule 94 = .ok (.iload_n 1, 1) := by decide +kernel
theorem dX6_addMule_95 : decode cX6_addMule 95 = .ok (.invokevirtual 71, 3) := by decide +kernel
theorem dX6_addMule_98 : decode cX6_addMule 98 = .ok (.invokevirtual 126, 3) := by decide +kernel
theorem dX6_addMule_101 : decode cX6_addMule 101 = .ok (.ireturn, 1) := by decide +kernel
set_option maxRecDepth 20000 in
theorem ggX6_station_X6_isStation : GoodIn wsX6_station wsX6_isStation := goodIn_r _ [7, 8, 9, 10, 6, 11, 55, 56, 57, 58, 59, 60, 61, 62, 63, 64, 65] (by decide +kernel) (by decide +kernel)
set_option maxRecDepth 20000 in
theorem gX6_station_X6_isStation : GoodIn wsX6_station (wsV RX6 52 RX6 yX6_isStation wsX6_isStation) := goodIn_app (goodIn_of _ (by decide +kernel)) ggX6_station_X6_isStation
set_option maxRecDepth 20000 in
theorem ggX6_station_X6_isWithin : GoodIn wsX6_station wsX6_isWithin := goodIn_r _ [11] (by decide +kernel) (by decide +kernel)
set_option maxRecDepth 20000 in
theorem gX6_station_X6_isWithin : GoodIn wsX6_station (va_wsS RX6 28 yX6_isWithin wsX6_isWithin) := goodIn_app (goodIn_of _ (by decide +kernel)) ggX6_station_X6_isWithin
set_option maxRecDepth 20000 in
theorem ggX6_station_X6_tellStation : GoodIn wsX6_station wsX6_tellStation := goodIn_r _ [15, 8, 16, 17, 18, 19, 20, 21, 22, 23, 24, 25, 26, 27, 28, 29, 30, 31, 32, 33, 34, 35, 36, 37, 38, 39, 40, 41, 42, 43, 44, 45, 46, 47, 48, 49, 50, 51, 52, 53, 6, 54, 55, 56, 57, 58, 59, 60, 61, 62, 63, 64, 65, 66, 67, 68, 69, 70, 71, 72, 73, 74, 75, 76, 77, 78, 79, 80, 81, 82, 83, 84, 85, 86, 87, 88, 89, 90, 91] (by decide +kernel) (by decide +kernel)
set_option maxRecDepth 20000 in
theorem gX6_station_X6_tellStation : GoodIn wsX6_station (wsV RX6 131 RX6 yX6_tellStation wsX6_tellStation) := goodIn_app (goodIn_of _ (by decide +kernel)) ggX6_station_X6_tellStation
theorem dX6_station_0 : decode cX6_station 0 = .ok (.aload_n 0, 1) := by decide +kernel
theorem dX6_station_1 : decode cX6_station 1 = .ok (.iload_n 1, 1) := by decide +kernel
theorem dX6_station_2 : decode cX6_station 2 = .ok (.invokevirtual 52, 3) := by decide +kernel
theorem dX6_station_5 : decode cX6_station 5 = .ok (.ifCond .eq 12, 3) := by decide +kernel
theorem dX6_station_8 : decode cX6_station 8 = .ok (.iload_n 2, 1) := by decide +kernel
theorem dX6_station_9 : decode cX6_station 9 = .ok (.iconst 0, 1) := by decide +kernel
theorem dX6_station_10 : decode cX6_station 10 = .ok (.iconst 4, 1) := by decide +kernel
theorem dX6_station_11 : decode cX6_station 11 = .ok (.invokestatic 28, 3) := by decide +kernel
theorem dX6_station_14 : decode cX6_station 14 = .ok (.ifCond .ne 13, 3) := by decide +kernel
theorem dX6_station_17 : decode cX6_station 17 = .ok (.new 56, 3) := by decide +kernel
theorem dX6_station_20 : decode cX6_station 20 = .ok (.dup, 1) := by decide +kernel
theorem dX6_station_21 : decode cX6_station 21 = .ok (.ldc 129, 2) := by decide +kernel
theorem dX6_station_23 : decode cX6_station 23 = .ok (.invokespecial 60, 3) := by decide +kernel
theorem dX6_station_26 : decode cX6_station 26 = .ok (.athrow, 1) := by decide +kernel
theorem dX6_station_27 : decode cX6_station 27 = .ok (.aload_n 0, 1) := by decide +kernel
theorem dX6_station_28 : decode cX6_station 28 = .ok (.iload_n 1, 1) := by decide +kernel
theorem dX6_station_29 : decode cX6_station 29 = .ok (.iload_n 2, 1) := by decide +kernel
theorem dX6_station_30 : decode cX6_station 30 = .ok (.invokevirtual 131, 3) := by decide +kernel
theorem dX6_station_33 : decode cX6_station 33 = .ok (.ireturn, 1) := by decide +kernel
set_option maxRecDepth 20000 in
theorem ggX6_road_X6_isRoad : GoodIn wsX6_road wsX6_isRoad := goodIn_r _ [7, 8, 9, 10, 6, 11, 52, 53, 54, 55, 56, 57, 58, 59, 60, 61, 62] (by decide +kernel) (by decide +kernel)
set_option maxRecDepth 20000 in
theorem gX6_road_X6_isRoad : GoodIn wsX6_road (wsV RX6 102 RX6 yX6_isRoad wsX6_isRoad) := goodIn_app (goodIn_of _ (by decide +kernel)) ggX6_road_X6_isRoad
set_option maxRecDepth 20000 in
theorem ggX6_road_X6_isWithin : GoodIn wsX6_road wsX6_isWithin := goodIn_r _ [11] (by decide +kernel) (by decide +kernel)
set_option maxRecDepth 20000 in
theorem gX6_road_X6_isWithin : GoodIn wsX6_road (va_wsS RX6 28 yX6_isWithin wsX6_isWithin) := goodIn_app (goodIn_of _ (by decide +kernel)) ggX6_road_X6_isWithin
set_option maxRecDepth 20000 in
theorem ggX6_road_X6_tellRoad : GoodIn wsX6_road wsX6_tellRoad := goodIn_r _ [15, 8, 16, 17, 18, 19, 20, 21, 22, 23, 24, 25, 26, 27, 28, 29, 30, 31, 32, 33, 34, 35, 36, 37, 38, 39, 40, 41, 42, 43, 44, 45, 46, 47, 48, 49, 50, 51, 52, 53, 54, 55, 56, 57, 58, 59, 60, 61, 62, 63, 64, 65, 66, 67, 68, 69, 70, 71, 72, 73, 74, 75, 76] (by decide +kernel) (by decide +kernel)
set_option maxRecDepth 20000 in
theorem gX6_road_X6_tellRoad : GoodIn wsX6_road (wsV RX6 136 RX6 yX6_tellRoad wsX6_tellRoad) := goodIn_app (goodIn_of _ (by decide +kernel)) ggX6_road_X6_tellRoad
theorem dX6_road_0 : decode cX6_road 0 = .ok (.aload_n 0, 1) := by decide +kernel
theorem dX6_road_1 : decode cX6_road 1 = .ok (.iload_n 1, 1) := by decide +kernel
theorem dX6_road_2 : decode cX6_road 2 = .ok (.invokevirtual 102, 3) := by decide +kernel
theorem dX6_road_5 : decode cX6_road 5 = .ok (.ifCond .eq 12, 3) := by decide +kernel
theorem dX6_road_8 : decode cX6_road 8 = .ok (.iload_n 2, 1) := by decide +kernel
theorem dX6_road_9 : decode cX6_road 9 = .ok (.iconst 0, 1) := by decide +kernel
theorem dX6_road_10 : decode cX6_road 10 = .ok (.iconst 5, 1) := by decide +kernel
theorem dX6_road_11 : decode cX6_road 11 = .ok (.invokestatic 28, 3) := by decide +kernel
theorem dX6_road_14 : decode cX6_road 14 = .ok (.ifCond .ne 13, 3) := by decide +kernel
theorem dX6_road_17 : decode cX6_road 17 = .ok (.new 56, 3) := by decide +kernel
theorem dX6_road_20 : decode cX6_road 20 = .ok (.dup, 1) := by decide +kernel
theorem dX6_road_21 : decode cX6_road 21 = .ok (.ldc 134, 2) := by decide +kernel
theorem dX6_road_23 : decode cX6_road 23 = .ok (.invokespecial 60, 3) := by decide +kernel
theorem dX6_road_26 : decode cX6_road 26 = .ok (.athrow, 1) := by decide +kernel
theorem dX6_road_27 : decode cX6_road 27 = .ok (.aload_n 0, 1) := by decide +kernel
theorem dX6_road_28 : decode cX6_road 28 = .ok (.iload_n 1, 1) := by decide +kernel
theorem dX6_road_29 : decode cX6_road 29 = .ok (.iload_n 2, 1) := by decide +kernel
theorem dX6_road_30 : decode cX6_road 30 = .ok (.invokevirtual 136, 3) := by decide +kernel
theorem dX6_road_33 : decode cX6_road 33 = .ok (.ireturn, 1) := by decide +kernel
set_option maxRecDepth 20000 in
theorem ggX6_mule_X6_isWithin : GoodIn wsX6_mule wsX6_isWithin := goodIn_r _ [7] (by decide +kernel) (by decide +kernel)
set_option maxRecDepth 20000 in
theorem gX6_mule_X6_isWithin : GoodIn wsX6_mule (va_wsS RX6 28 yX6_isWithin wsX6_isWithin) := goodIn_app (goodIn_of _ (by decide +kernel)) ggX6_mule_X6_isWithin
set_option maxRecDepth 20000 in
theorem ggX6_mule_X6_tellMule : GoodIn wsX6_mule wsX6_tellMule := goodIn_r _ [11, 3, 12, 13, 14, 15, 16, 17, 18, 19, 20, 21, 22, 23, 24, 25, 26, 27, 28, 29, 30, 31, 32, 33, 34, 35, 36, 37, 38, 39, 40, 41, 42, 43, 44, 45, 46, 47, 48, 49, 50, 51, 52, 53, 54, 55, 56, 57, 58, 59] (by decide +kernel) (by decide +kernel)
set_option maxRecDepth 20000 in
theorem gX6_mule_X6_tellMule : GoodIn wsX6_mule (wsV RX6 141 RX6 yX6_tellMule wsX6_tellMule) := goodIn_app (goodIn_of _ (by decide +kernel)) ggX6_mule_X6_tellMule
theorem dX6_mule_0 : decode cX6_mule 0 = .ok (.iload_n 1, 1) := by decide +kernel
theorem dX6_mule_1 : decode cX6_mule 1 = .ok (.iconst 0, 1) := by decide +kernel
theorem dX6_mule_2 : decode cX6_mule 2 = .ok (.aload_n 0, 1) := by decide +kernel
theorem dX6_mule_3 : decode cX6_mule 3 = .ok (.getfield 21, 3) := by decide +kernel
theorem dX6_mule_6 : decode cX6_mule 6 = .ok (.getfield 109, 3) := by decide +kernel
theorem dX6_mule_9 : decode cX6_mule 9 = .ok (.getfield 113, 3) := by decide +kernel
theorem dX6_mule_12 : decode cX6_mule 12 = .ok (.iconst 1, 1) := by decide +kernel
theorem dX6_mule_13 : decode cX6_mule 13 = .ok (.isub, 1) := by decide +kernel
theorem dX6_mule_14 : decode cX6_mule 14 = .ok (.invokestatic 28, 3) := by decide +kernel
