theorem dX6_mule_17 : decode cX6_mule 17 = .ok (.ifCond .eq 12, 3) := by decide +kernel
theorem dX6_mule_20 : decode cX6_mule 20 = .ok (.iload_n 2, 1) := by decide +kernel
theorem dX6_mule_21 : decode cX6_mule 21 = .ok (.iconst 0, 1) := by decide +kernel
theorem dX6_mule_22 : decode cX6_mule 22 = .ok (.iconst 5, 1) := by decide +kernel
theorem dX6_mule_23 : decode cX6_mule 23 = .ok (.invokestatic 28, 3) := by decide +kernel
theorem dX6_mule_26 : decode cX6_mule 26 = .ok (.ifCond .ne 13, 3) := by decide +kernel
theorem dX6_mule_29 : decode cX6_mule 29 = .ok (.new 56, 3) := by decide +kernel
theorem dX6_mule_32 : decode cX6_mule 32 = .ok (.dup, 1) := by decide +kernel
theorem dX6_mule_33 : decode cX6_mule 33 = .ok (.ldc 139, 2) := by decide +kernel
theorem dX6_mule_35 : decode cX6_mule 35 = .ok (.invokespecial 60, 3) := by decide +kernel
theorem dX6_mule_38 : decode cX6_mule 38 = .ok (.athrow, 1) := by decide +kernel
theorem dX6_mule_39 : decode cX6_mule 39 = .ok (.aload_n 0, 1) := by decide +kernel
theorem dX6_mule_40 : decode cX6_mule 40 = .ok (.iload_n 1, 1) := by decide +kernel
theorem dX6_mule_41 : decode cX6_mule 41 = .ok (.iload_n 2, 1) := by decide +kernel
theorem dX6_mule_42 : decode cX6_mule 42 = .ok (.invokevirtual 141, 3) := by decide +kernel
theorem dX6_mule_45 : decode cX6_mule 45 = .ok (.ireturn, 1) := by decide +kernel
set_option maxRecDepth 20000 in
theorem ggX6_post_X6_isStation : GoodIn wsX6_post wsX6_isStation := goodIn_r _ [12, 13, 14, 15, 11, 16, 48, 49, 50, 70, 71, 72, 73, 74, 75, 76, 77] (by decide +kernel) (by decide +kernel)
set_option maxRecDepth 20000 in
theorem gX6_post_X6_isStation : GoodIn wsX6_post (wsV RX6 52 RX6 yX6_isStation wsX6_isStation) := goodIn_app (goodIn_of _ (by decide +kernel)) ggX6_post_X6_isStation
set_option maxRecDepth 20000 in
theorem ggX6_post_X6_isWithin : GoodIn wsX6_post wsX6_isWithin := goodIn_r _ [16] (by decide +kernel) (by decide +kernel)
set_option maxRecDepth 20000 in
theorem gX6_post_X6_isWithin : GoodIn wsX6_post (va_wsS RX6 28 yX6_isWithin wsX6_isWithin) := goodIn_app (goodIn_of _ (by decide +kernel)) ggX6_post_X6_isWithin
set_option maxRecDepth 20000 in
theorem ggX6_post_X1_put : GoodIn wsX6_post wsX1_put := goodIn_r _ [21, 22, 23, 24, 25, 26, 27, 28, 29, 30, 31, 32, 33, 34, 35, 36, 37, 38, 39, 40, 41, 20, 42, 43, 44, 45, 46, 47, 58, 59, 60, 61, 62, 63, 64, 65, 66, 67, 68, 69, 78] (by decide +kernel) (by decide +kernel)
set_option maxRecDepth 20000 in
theorem gX6_post_X1_put : GoodIn wsX6_post (wsV RX6 158 RX1 yX1_put wsX1_put) := goodIn_app (goodIn_of _ (by decide +kernel)) ggX6_post_X1_put
theorem dX6_post_0 : decode cX6_post 0 = .ok (.aload_n 0, 1) := by decide +kernel
theorem dX6_post_1 : decode cX6_post 1 = .ok (.iload_n 1, 1) := by decide +kernel
theorem dX6_post_2 : decode cX6_post 2 = .ok (.invokevirtual 52, 3) := by decide +kernel
theorem dX6_post_5 : decode cX6_post 5 = .ok (.ifCond .eq 11, 3) := by decide +kernel
theorem dX6_post_8 : decode cX6_post 8 = .ok (.aload_n 0, 1) := by decide +kernel
theorem dX6_post_9 : decode cX6_post 9 = .ok (.iload_n 2, 1) := by decide +kernel
theorem dX6_post_10 : decode cX6_post 10 = .ok (.invokevirtual 52, 3) := by decide +kernel
theorem dX6_post_13 : decode cX6_post 13 = .ok (.ifCond .ne 13, 3) := by decide +kernel
theorem dX6_post_16 : decode cX6_post 16 = .ok (.new 56, 3) := by decide +kernel
theorem dX6_post_19 : decode cX6_post 19 = .ok (.dup, 1) := by decide +kernel
theorem dX6_post_20 : decode cX6_post 20 = .ok (.ldc 58, 2) := by decide +kernel
theorem dX6_post_22 : decode cX6_post 22 = .ok (.invokespecial 60, 3) := by decide +kernel
theorem dX6_post_25 : decode cX6_post 25 = .ok (.athrow, 1) := by decide +kernel
theorem dX6_post_26 : decode cX6_post 26 = .ok (.iload_n 1, 1) := by decide +kernel
theorem dX6_post_27 : decode cX6_post 27 = .ok (.iload_n 2, 1) := by decide +kernel
theorem dX6_post_28 : decode cX6_post 28 = .ok (.if_icmp .eq 13, 3) := by decide +kernel
theorem dX6_post_31 : decode cX6_post 31 = .ok (.iload_n 3, 1) := by decide +kernel
theorem dX6_post_32 : decode cX6_post 32 = .ok (.iconst 0, 1) := by decide +kernel
theorem dX6_post_33 : decode cX6_post 33 = .ok (.bipush 9, 2) := by decide +kernel
theorem dX6_post_35 : decode cX6_post 35 = .ok (.invokestatic 28, 3) := by decide +kernel
theorem dX6_post_38 : decode cX6_post 38 = .ok (.ifCond .ne 13, 3) := by decide +kernel
theorem dX6_post_41 : decode cX6_post 41 = .ok (.new 32, 3) := by decide +kernel
theorem dX6_post_44 : decode cX6_post 44 = .ok (.dup, 1) := by decide +kernel
theorem dX6_post_45 : decode cX6_post 45 = .ok (.ldc 144, 2) := by decide +kernel
theorem dX6_post_47 : decode cX6_post 47 = .ok (.invokespecial 36, 3) := by decide +kernel
theorem dX6_post_50 : decode cX6_post 50 = .ok (.athrow, 1) := by decide +kernel
theorem dX6_post_51 : decode cX6_post 51 = .ok (.aload_n 0, 1) := by decide +kernel
theorem dX6_post_52 : decode cX6_post 52 = .ok (.getfield 21, 3) := by decide +kernel
theorem dX6_post_55 : decode cX6_post 55 = .ok (.getfield 146, 3) := by decide +kernel
theorem dX6_post_58 : decode cX6_post 58 = .ok (.getfield 150, 3) := by decide +kernel
theorem dX6_post_61 : decode cX6_post 61 = .ok (.bipush 60, 2) := by decide +kernel
theorem dX6_post_63 : decode cX6_post 63 = .ok (.if_icmp .lt 13, 3) := by decide +kernel
theorem dX6_post_66 : decode cX6_post 66 = .ok (.new 43, 3) := by decide +kernel
theorem dX6_post_69 : decode cX6_post 69 = .ok (.dup, 1) := by decide +kernel
theorem dX6_post_70 : decode cX6_post 70 = .ok (.ldc 153, 2) := by decide +kernel
theorem dX6_post_72 : decode cX6_post 72 = .ok (.invokespecial 47, 3) := by decide +kernel
theorem dX6_post_75 : decode cX6_post 75 = .ok (.athrow, 1) := by decide +kernel
theorem dX6_post_76 : decode cX6_post 76 = .ok (.aload_n 0, 1) := by decide +kernel
theorem dX6_post_77 : decode cX6_post 77 = .ok (.getfield 21, 3) := by decide +kernel
theorem dX6_post_80 : decode cX6_post 80 = .ok (.getfield 146, 3) := by decide +kernel
theorem dX6_post_83 : decode cX6_post 83 = .ok (.iload_n 1, 1) := by decide +kernel
theorem dX6_post_84 : decode cX6_post 84 = .ok (.iload_n 2, 1) := by decide +kernel
theorem dX6_post_85 : decode cX6_post 85 = .ok (.iload_n 3, 1) := by decide +kernel
theorem dX6_post_86 : decode cX6_post 86 = .ok (.aload_n 0, 1) := by decide +kernel
theorem dX6_post_87 : decode cX6_post 87 = .ok (.getfield 21, 3) := by decide +kernel
theorem dX6_post_90 : decode cX6_post 90 = .ok (.getfield 155, 3) := by decide +kernel
theorem dX6_post_93 : decode cX6_post 93 = .ok (.invokevirtual 158, 3) := by decide +kernel
theorem dX6_post_96 : decode cX6_post 96 = .ok (.ireturn, 1) := by decide +kernel
set_option maxRecDepth 20000 in
theorem ggX6_recall_X6_isLetter : GoodIn wsX6_recall wsX6_isLetter := goodIn_r _ [11, 5, 12, 13, 10, 14, 62, 63, 64, 65, 66, 67, 68, 69, 70, 71, 72, 73, 74, 75, 76, 77, 78, 79, 80, 81, 82, 83] (by decide +kernel) (by decide +kernel)
set_option maxRecDepth 20000 in
theorem gX6_recall_X6_isLetter : GoodIn wsX6_recall (wsV RX6 162 RX6 yX6_isLetter wsX6_isLetter) := goodIn_app (goodIn_of _ (by decide +kernel)) ggX6_recall_X6_isLetter
set_option maxRecDepth 20000 in
theorem ggX6_recall_X1_isRecalled : GoodIn wsX6_recall wsX1_isRecalled := goodIn_r _ [19, 20, 21, 22, 23, 24, 25, 26, 72, 73, 74, 75, 76, 77, 78, 79, 80, 81, 82, 83, 84] (by decide +kernel) (by decide +kernel)
set_option maxRecDepth 20000 in
theorem gX6_recall_X1_isRecalled : GoodIn wsX6_recall (wsV RX6 167 RX1 yX1_isRecalled wsX1_isRecalled) := goodIn_app (goodIn_of _ (by decide +kernel)) ggX6_recall_X1_isRecalled
set_option maxRecDepth 20000 in
theorem ggX6_recall_X1_hasEnded : GoodIn wsX6_recall wsX1_hasEnded := goodIn_r _ [30, 31, 21, 22, 23, 24, 25, 26, 72, 73, 74, 75, 76, 77, 78, 79, 80, 81, 82, 83, 84] (by decide +kernel) (by decide +kernel)
set_option maxRecDepth 20000 in
theorem gX6_recall_X1_hasEnded : GoodIn wsX6_recall (wsV RX6 170 RX1 yX1_hasEnded wsX1_hasEnded) := goodIn_app (goodIn_of _ (by decide +kernel)) ggX6_recall_X1_hasEnded
set_option maxRecDepth 20000 in
theorem ggX6_recall_X3_get : GoodIn wsX6_recall wsX3_get := goodIn_r _ [25, 26, 84] (by decide +kernel) (by decide +kernel)
set_option maxRecDepth 20000 in
theorem gX6_recall_X3_get : GoodIn wsX6_recall (wsV RX6 71 RX3 yX3_get wsX3_get) := goodIn_app (goodIn_of _ (by decide +kernel)) ggX6_recall_X3_get
set_option maxRecDepth 20000 in
theorem ggX6_recall_X6_with : GoodIn wsX6_recall wsX6_with := goodIn_r _ [35] (by decide +kernel) (by decide +kernel)
set_option maxRecDepth 20000 in
theorem gX6_recall_X6_with : GoodIn wsX6_recall (va_wsS RX6 84 yX6_with wsX6_with) := goodIn_app (goodIn_of _ (by decide +kernel)) ggX6_recall_X6_with
set_option maxRecDepth 20000 in
theorem ggX6_recall_X3_set : GoodIn wsX6_recall wsX3_set := goodIn_r _ [39, 26, 84] (by decide +kernel) (by decide +kernel)
set_option maxRecDepth 20000 in
theorem gX6_recall_X3_set : GoodIn wsX6_recall (wsV RX6 181 RX3 yX3_set wsX3_set) := goodIn_app (goodIn_of _ (by decide +kernel)) ggX6_recall_X3_set
set_option maxRecDepth 20000 in
theorem ggX6_recall_X0_everLitFrom : GoodIn wsX6_recall wsX0_everLitFrom := goodIn_r _ [44, 45, 34, 10, 35, 46, 47, 48, 43, 49, 50, 51, 52, 53, 54, 22, 23, 24, 25, 26, 85, 86, 87, 88, 89, 90, 91, 92, 84] (by decide +kernel) (by decide +kernel)
set_option maxRecDepth 20000 in
theorem gX6_recall_X0_everLitFrom : GoodIn wsX6_recall (wsV RX6 185 RX0 yX0_everLitFrom wsX0_everLitFrom) := goodIn_app (goodIn_of _ (by decide +kernel)) ggX6_recall_X0_everLitFrom
set_option maxRecDepth 20000 in
theorem ggX6_recall_J6_bitCount_0f7a4 : GoodIn wsX6_recall wsJ6_bitCount_0f7a4 := goodIn_r _ [58, 59, 60, 61] (by decide +kernel) (by decide +kernel)
set_option maxRecDepth 20000 in
theorem gX6_recall_J6_bitCount_0f7a4 : GoodIn wsX6_recall (va_wsS RX6 76 yJ6_bitCount_0f7a4 wsJ6_bitCount_0f7a4) := goodIn_app (goodIn_of _ (by decide +kernel)) ggX6_recall_J6_bitCount_0f7a4
theorem dX6_recall_0 : decode cX6_recall 0 = .ok (.aload_n 0, 1) := by decide +kernel
theorem dX6_recall_1 : decode cX6_recall 1 = .ok (.iload_n 1, 1) := by decide +kernel
theorem dX6_recall_2 : decode cX6_recall 2 = .ok (.invokevirtual 162, 3) := by decide +kernel
theorem dX6_recall_5 : decode cX6_recall 5 = .ok (.ifCond .ne 13, 3) := by decide +kernel
theorem dX6_recall_8 : decode cX6_recall 8 = .ok (.new 56, 3) := by decide +kernel
theorem dX6_recall_11 : decode cX6_recall 11 = .ok (.dup, 1) := by decide +kernel
theorem dX6_recall_12 : decode cX6_recall 12 = .ok (.ldc 165, 2) := by decide +kernel
theorem dX6_recall_14 : decode cX6_recall 14 = .ok (.invokespecial 60, 3) := by decide +kernel
theorem dX6_recall_17 : decode cX6_recall 17 = .ok (.athrow, 1) := by decide +kernel
theorem dX6_recall_18 : decode cX6_recall 18 = .ok (.aload_n 0, 1) := by decide +kernel
theorem dX6_recall_19 : decode cX6_recall 19 = .ok (.getfield 21, 3) := by decide +kernel
theorem dX6_recall_22 : decode cX6_recall 22 = .ok (.getfield 146, 3) := by decide +kernel
theorem dX6_recall_25 : decode cX6_recall 25 = .ok (.iload_n 1, 1) := by decide +kernel
theorem dX6_recall_26 : decode cX6_recall 26 = .ok (.invokevirtual 167, 3) := by decide +kernel
theorem dX6_recall_29 : decode cX6_recall 29 = .ok (.ifCond .ne 17, 3) := by decide +kernel
theorem dX6_recall_32 : decode cX6_recall 32 = .ok (.aload_n 0, 1) := by decide +kernel
theorem dX6_recall_33 : decode cX6_recall 33 = .ok (.getfield 21, 3) := by decide +kernel
theorem dX6_recall_36 : decode cX6_recall 36 = .ok (.getfield 146, 3) := by decide +kernel
theorem dX6_recall_39 : decode cX6_recall 39 = .ok (.iload_n 1, 1) := by decide +kernel
theorem dX6_recall_40 : decode cX6_recall 40 = .ok (.invokevirtual 170, 3) := by decide +kernel
theorem dX6_recall_43 : decode cX6_recall 43 = .ok (.ifCond .eq 13, 3) := by decide +kernel
theorem dX6_recall_46 : decode cX6_recall 46 = .ok (.new 43, 3) := by decide +kernel
theorem dX6_recall_49 : decode cX6_recall 49 = .ok (.dup, 1) := by decide +kernel
theorem dX6_recall_50 : decode cX6_recall 50 = .ok (.ldc 173, 2) := by decide +kernel
theorem dX6_recall_52 : decode cX6_recall 52 = .ok (.invokespecial 47, 3) := by decide +kernel
theorem dX6_recall_55 : decode cX6_recall 55 = .ok (.athrow, 1) := by decide +kernel
theorem dX6_recall_56 : decode cX6_recall 56 = .ok (.aload_n 0, 1) := by decide +kernel
theorem dX6_recall_57 : decode cX6_recall 57 = .ok (.getfield 21, 3) := by decide +kernel
theorem dX6_recall_60 : decode cX6_recall 60 = .ok (.getfield 146, 3) := by decide +kernel
theorem dX6_recall_63 : decode cX6_recall 63 = .ok (.getfield 175, 3) := by decide +kernel
theorem dX6_recall_66 : decode cX6_recall 66 = .ok (.iload_n 1, 1) := by decide +kernel
theorem dX6_recall_67 : decode cX6_recall 67 = .ok (.invokevirtual 71, 3) := by decide +kernel
theorem dX6_recall_70 : decode cX6_recall 70 = .ok (.istore_n 2, 1) := by decide +kernel
theorem dX6_recall_71 : decode cX6_recall 71 = .ok (.aload_n 0, 1) := by decide +kernel
theorem dX6_recall_72 : decode cX6_recall 72 = .ok (.getfield 21, 3) := by decide +kernel
theorem dX6_recall_75 : decode cX6_recall 75 = .ok (.getfield 146, 3) := by decide +kernel
theorem dX6_recall_78 : decode cX6_recall 78 = .ok (.getfield 178, 3) := by decide +kernel
theorem dX6_recall_81 : decode cX6_recall 81 = .ok (.iload_n 1, 1) := by decide +kernel
theorem dX6_recall_82 : decode cX6_recall 82 = .ok (.iconst 0, 1) := by decide +kernel
theorem dX6_recall_83 : decode cX6_recall 83 = .ok (.iload_n 2, 1) := by decide +kernel
theorem dX6_recall_84 : decode cX6_recall 84 = .ok (.invokestatic 84, 3) := by decide +kernel
theorem dX6_recall_87 : decode cX6_recall 87 = .ok (.invokevirtual 181, 3) := by decide +kernel
theorem dX6_recall_90 : decode cX6_recall 90 = .ok (.aload_n 0, 1) := by decide +kernel
theorem dX6_recall_91 : decode cX6_recall 91 = .ok (.getfield 10, 3) := by decide +kernel
theorem dX6_recall_94 : decode cX6_recall 94 = .ok (.iload_n 2, 1) := by decide +kernel
theorem dX6_recall_95 : decode cX6_recall 95 = .ok (.invokevirtual 185, 3) := by decide +kernel
theorem dX6_recall_98 : decode cX6_recall 98 = .ok (.invokestatic 76, 3) := by decide +kernel
theorem dX6_recall_101 : decode cX6_recall 101 = .ok (.iconst 1, 1) := by decide +kernel
theorem dX6_recall_102 : decode cX6_recall 102 = .ok (.isub, 1) := by decide +kernel
theorem dX6_recall_103 : decode cX6_recall 103 = .ok (.ireturn, 1) := by decide +kernel
set_option maxRecDepth 20000 in
theorem ggX6_letter_X6_isLetter : GoodIn wsX6_letter wsX6_isLetter := goodIn_r _ [7, 8, 9, 10, 6, 11, 36, 37, 38, 39, 40, 41, 42, 43, 44, 45, 46, 47, 48, 49, 50, 51, 52, 53, 54, 55, 56, 57] (by decide +kernel) (by decide +kernel)
set_option maxRecDepth 20000 in
theorem gX6_letter_X6_isLetter : GoodIn wsX6_letter (wsV RX6 162 RX6 yX6_isLetter wsX6_isLetter) := goodIn_app (goodIn_of _ (by decide +kernel)) ggX6_letter_X6_isLetter
set_option maxRecDepth 20000 in
theorem ggX6_letter_X6_isWithin : GoodIn wsX6_letter wsX6_isWithin := goodIn_r _ [11] (by decide +kernel) (by decide +kernel)
set_option maxRecDepth 20000 in
theorem gX6_letter_X6_isWithin : GoodIn wsX6_letter (va_wsS RX6 28 yX6_isWithin wsX6_isWithin) := goodIn_app (goodIn_of _ (by decide +kernel)) ggX6_letter_X6_isWithin
set_option maxRecDepth 20000 in
theorem ggX6_letter_X6_tellLetter : GoodIn wsX6_letter wsX6_tellLetter := goodIn_r _ [15, 8, 16, 17, 18, 19, 20, 21, 22, 23, 24, 25, 26, 27, 28, 29, 30, 31, 32, 33, 34, 35, 36, 37, 38, 39, 40, 41, 42, 43, 44, 45, 46, 47, 48, 49, 50, 51, 52, 53, 54, 55, 56, 57, 58] (by decide +kernel) (by decide +kernel)
set_option maxRecDepth 20000 in
theorem gX6_letter_X6_tellLetter : GoodIn wsX6_letter (wsV RX6 190 RX6 yX6_tellLetter wsX6_tellLetter) := goodIn_app (goodIn_of _ (by decide +kernel)) ggX6_letter_X6_tellLetter
theorem dX6_letter_0 : decode cX6_letter 0 = .ok (.aload_n 0, 1) := by decide +kernel
theorem dX6_letter_1 : decode cX6_letter 1 = .ok (.iload_n 1, 1) := by decide +kernel
theorem dX6_letter_2 : decode cX6_letter 2 = .ok (.invokevirtual 162, 3) := by decide +kernel
theorem dX6_letter_5 : decode cX6_letter 5 = .ok (.ifCond .eq 13, 3) := by decide +kernel
theorem dX6_letter_8 : decode cX6_letter 8 = .ok (.iload_n 2, 1) := by decide +kernel
theorem dX6_letter_9 : decode cX6_letter 9 = .ok (.iconst 0, 1) := by decide +kernel
theorem dX6_letter_10 : decode cX6_letter 10 = .ok (.bipush 10, 2) := by decide +kernel
theorem dX6_letter_12 : decode cX6_letter 12 = .ok (.invokestatic 28, 3) := by decide +kernel
theorem dX6_letter_15 : decode cX6_letter 15 = .ok (.ifCond .ne 13, 3) := by decide +kernel
theorem dX6_letter_18 : decode cX6_letter 18 = .ok (.new 56, 3) := by decide +kernel
theorem dX6_letter_21 : decode cX6_letter 21 = .ok (.dup, 1) := by decide +kernel
theorem dX6_letter_22 : decode cX6_letter 22 = .ok (.ldc 188, 2) := by decide +kernel
theorem dX6_letter_24 : decode cX6_letter 24 = .ok (.invokespecial 60, 3) := by decide +kernel
theorem dX6_letter_27 : decode cX6_letter 27 = .ok (.athrow, 1) := by decide +kernel
theorem dX6_letter_28 : decode cX6_letter 28 = .ok (.aload_n 0, 1) := by decide +kernel
theorem dX6_letter_29 : decode cX6_letter 29 = .ok (.iload_n 1, 1) := by decide +kernel
theorem dX6_letter_30 : decode cX6_letter 30 = .ok (.iload_n 2, 1) := by decide +kernel
theorem dX6_letter_31 : decode cX6_letter 31 = .ok (.invokevirtual 190, 3) := by decide +kernel
theorem dX6_letter_34 : decode cX6_letter 34 = .ok (.ireturn, 1) := by decide +kernel
set_option maxRecDepth 20000 in
theorem ggX6_pass_X6_isWithin : GoodIn wsX6_pass wsX6_isWithin := goodIn_r _ [7] (by decide +kernel) (by decide +kernel)
set_option maxRecDepth 20000 in
theorem gX6_pass_X6_isWithin : GoodIn wsX6_pass (va_wsS RX6 28 yX6_isWithin wsX6_isWithin) := goodIn_app (goodIn_of _ (by decide +kernel)) ggX6_pass_X6_isWithin
set_option maxRecDepth 20000 in
theorem ggX6_pass_X4_letHoursGoBy : GoodIn wsX6_pass wsX4_letHoursGoBy := goodIn_r _ [12, 13, 14, 15, 16, 17, 18, 19, 20, 21, 22, 23, 24, 25, 26, 27, 28, 29, 30, 11, 31, 32, 33, 34, 35, 36, 37, 38, 39, 40, 41, 42, 43, 44, 45, 46, 47, 48, 49, 50, 51, 52, 53, 54, 55, 56, 57, 58, 59, 60, 61, 62, 63, 64, 65, 66, 67, 68, 69, 70, 71, 72, 73, 74, 75, 76, 77, 78, 79, 80, 81, 82, 83, 84, 85, 86, 6, 87, 88, 89, 90, 91, 92, 93, 94, 95, 96, 97, 98, 99, 100, 101, 102, 103, 104, 105, 106, 107, 108, 109, 110, 111, 112, 113, 114, 115, 116, 117, 118, 119, 120, 121, 122, 123, 124, 125, 126, 127, 128, 129, 130, 131, 132, 133, 134, 135, 136, 137, 138, 139, 140, 141, 142, 143, 144, 145, 146, 147, 148, 149, 150, 151, 152, 153, 154, 155, 156, 157, 158, 159, 160, 161, 162, 163, 164, 165, 166, 170, 171, 172, 173, 174, 175, 176, 177, 178, 179, 180, 181, 182, 183, 184, 185, 186, 187, 188, 189, 190, 191, 192, 193, 194, 195, 196, 197, 198, 199, 200, 201, 202, 203, 204, 205] (by decide +kernel) (by decide +kernel)
set_option maxRecDepth 20000 in
theorem gX6_pass_X4_letHoursGoBy : GoodIn wsX6_pass (wsV RX6 195 RX4 yX4_letHoursGoBy wsX4_letHoursGoBy) := goodIn_app (goodIn_of _ (by decide +kernel)) ggX6_pass_X4_letHoursGoBy
theorem dX6_pass_0 : decode cX6_pass 0 = .ok (.iload_n 1, 1) := by decide +kernel
theorem dX6_pass_1 : decode cX6_pass 1 = .ok (.iconst 1, 1) := by decide +kernel
theorem dX6_pass_2 : decode cX6_pass 2 = .ok (.bipush 100, 2) := by decide +kernel
theorem dX6_pass_4 : decode cX6_pass 4 = .ok (.invokestatic 28, 3) := by decide +kernel
theorem dX6_pass_7 : decode cX6_pass 7 = .ok (.ifCond .ne 13, 3) := by decide +kernel
theorem dX6_pass_10 : decode cX6_pass 10 = .ok (.new 32, 3) := by decide +kernel
theorem dX6_pass_13 : decode cX6_pass 13 = .ok (.dup, 1) := by decide +kernel
theorem dX6_pass_14 : decode cX6_pass 14 = .ok (.ldc 193, 2) := by decide +kernel
theorem dX6_pass_16 : decode cX6_pass 16 = .ok (.invokespecial 36, 3) := by decide +kernel
theorem dX6_pass_19 : decode cX6_pass 19 = .ok (.athrow, 1) := by decide +kernel
theorem dX6_pass_20 : decode cX6_pass 20 = .ok (.aload_n 0, 1) := by decide +kernel
theorem dX6_pass_21 : decode cX6_pass 21 = .ok (.getfield 21, 3) := by decide +kernel
theorem dX6_pass_24 : decode cX6_pass 24 = .ok (.iload_n 1, 1) := by decide +kernel
theorem dX6_pass_25 : decode cX6_pass 25 = .ok (.invokevirtual 195, 3) := by decide +kernel
theorem dX6_pass_28 : decode cX6_pass 28 = .ok (.ireturn, 1) := by decide +kernel
set_option maxRecDepth 20000 in
theorem ggX6_count_X6_isWithin : GoodIn wsX6_count wsX6_isWithin := goodIn_r _ [6] (by decide +kernel) (by decide +kernel)
set_option maxRecDepth 20000 in
theorem gX6_count_X6_isWithin : GoodIn wsX6_count (va_wsS RX6 28 yX6_isWithin wsX6_isWithin) := goodIn_app (goodIn_of _ (by decide +kernel)) ggX6_count_X6_isWithin
set_option maxRecDepth 20000 in
theorem ggX6_count_X6_tellCount : GoodIn wsX6_count wsX6_tellCount := goodIn_r _ [10, 11, 12, 13, 14, 15, 16, 17, 18, 19, 20, 21, 22, 23, 24, 25, 26, 27, 28, 29, 30, 31, 32, 33, 34, 35, 36, 37, 38, 39, 40, 41, 42, 43, 44, 45, 46, 47, 48, 49, 50, 51, 52, 53, 54, 55, 56, 57, 58, 59, 60, 61, 62] (by decide +kernel) (by decide +kernel)
set_option maxRecDepth 20000 in
theorem gX6_count_X6_tellCount : GoodIn wsX6_count (wsV RX6 200 RX6 yX6_tellCount wsX6_tellCount) := goodIn_app (goodIn_of _ (by decide +kernel)) ggX6_count_X6_tellCount
theorem dX6_count_0 : decode cX6_count 0 = .ok (.iload_n 1, 1) := by decide +kernel
theorem dX6_count_1 : decode cX6_count 1 = .ok (.iconst 0, 1) := by decide +kernel
theorem dX6_count_2 : decode cX6_count 2 = .ok (.bipush 9, 2) := by decide +kernel
theorem dX6_count_4 : decode cX6_count 4 = .ok (.invokestatic 28, 3) := by decide +kernel
theorem dX6_count_7 : decode cX6_count 7 = .ok (.ifCond .ne 13, 3) := by decide +kernel
theorem dX6_count_10 : decode cX6_count 10 = .ok (.new 56, 3) := by decide +kernel
theorem dX6_count_13 : decode cX6_count 13 = .ok (.dup, 1) := by decide +kernel
theorem dX6_count_14 : decode cX6_count 14 = .ok (.ldc 198, 2) := by decide +kernel
theorem dX6_count_16 : decode cX6_count 16 = .ok (.invokespecial 60, 3) := by decide +kernel
theorem dX6_count_19 : decode cX6_count 19 = .ok (.athrow, 1) := by decide +kernel
theorem dX6_count_20 : decode cX6_count 20 = .ok (.aload_n 0, 1) := by decide +kernel
theorem dX6_count_21 : decode cX6_count 21 = .ok (.iload_n 1, 1) := by decide +kernel
theorem dX6_count_22 : decode cX6_count 22 = .ok (.invokevirtual 200, 3) := by decide +kernel
theorem dX6_count_25 : decode cX6_count 25 = .ok (.ireturn, 1) := by decide +kernel
set_option maxRecDepth 20000 in
theorem ggX6_way_X6_isStation : GoodIn wsX6_way wsX6_isStation := goodIn_r _ [9, 10, 11, 12, 8, 13, 31, 32, 33, 41, 42, 43, 44, 45, 46, 47, 48] (by decide +kernel) (by decide +kernel)
set_option maxRecDepth 20000 in
theorem gX6_way_X6_isStation : GoodIn wsX6_way (wsV RX6 52 RX6 yX6_isStation wsX6_isStation) := goodIn_app (goodIn_of _ (by decide +kernel)) ggX6_way_X6_isStation
set_option maxRecDepth 20000 in
theorem ggX6_way_X6_isWithin : GoodIn wsX6_way wsX6_isWithin := goodIn_r _ [13] (by decide +kernel) (by decide +kernel)
set_option maxRecDepth 20000 in
theorem gX6_way_X6_isWithin : GoodIn wsX6_way (va_wsS RX6 28 yX6_isWithin wsX6_isWithin) := goodIn_app (goodIn_of _ (by decide +kernel)) ggX6_way_X6_isWithin
set_option maxRecDepth 20000 in
theorem ggX6_way_X5_firstRoad : GoodIn wsX6_way wsX5_firstRoad := goodIn_r _ [18, 19, 20, 21, 22, 23, 24, 25, 49, 50, 51] (by decide +kernel) (by decide +kernel)
set_option maxRecDepth 20000 in
theorem gX6_way_X5_firstRoad : GoodIn wsX6_way (wsV RX6 209 RX5 yX5_firstRoad wsX5_firstRoad) := goodIn_app (goodIn_of _ (by decide +kernel)) ggX6_way_X5_firstRoad
set_option maxRecDepth 20000 in
theorem ggX6_way_X5_hoursOf : GoodIn wsX6_way wsX5_hoursOf := goodIn_r _ [29, 30, 20, 21, 22, 23, 24, 25, 49, 50, 51] (by decide +kernel) (by decide +kernel)
set_option maxRecDepth 20000 in
theorem gX6_way_X5_hoursOf : GoodIn wsX6_way (wsV RX6 214 RX5 yX5_hoursOf wsX5_hoursOf) := goodIn_app (goodIn_of _ (by decide +kernel)) ggX6_way_X5_hoursOf
theorem dX6_way_0 : decode cX6_way 0 = .ok (.aload_n 0, 1) := by decide +kernel
theorem dX6_way_1 : decode cX6_way 1 = .ok (.iload_n 1, 1) := by decide +kernel
theorem dX6_way_2 : decode cX6_way 2 = .ok (.invokevirtual 52, 3) := by decide +kernel
theorem dX6_way_5 : decode cX6_way 5 = .ok (.ifCond .eq 20, 3) := by decide +kernel
theorem dX6_way_8 : decode cX6_way 8 = .ok (.aload_n 0, 1) := by decide +kernel
theorem dX6_way_9 : decode cX6_way 9 = .ok (.iload_n 2, 1) := by decide +kernel
theorem dX6_way_10 : decode cX6_way 10 = .ok (.invokevirtual 52, 3) := by decide +kernel
theorem dX6_way_13 : decode cX6_way 13 = .ok (.ifCond .eq 12, 3) := by decide +kernel
theorem dX6_way_16 : decode cX6_way 16 = .ok (.iload_n 3, 1) := by decide +kernel
theorem dX6_way_17 : decode cX6_way 17 = .ok (.iconst 0, 1) := by decide +kernel
theorem dX6_way_18 : decode cX6_way 18 = .ok (.iconst 1, 1) := by decide +kernel
theorem dX6_way_19 : decode cX6_way 19 = .ok (.invokestatic 28, 3) := by decide +kernel
theorem dX6_way_22 : decode cX6_way 22 = .ok (.ifCond .ne 13, 3) := by decide +kernel
theorem dX6_way_25 : decode cX6_way 25 = .ok (.new 56, 3) := by decide +kernel
theorem dX6_way_28 : decode cX6_way 28 = .ok (.dup, 1) := by decide +kernel
theorem dX6_way_29 : decode cX6_way 29 = .ok (.ldc 203, 2) := by decide +kernel
theorem dX6_way_31 : decode cX6_way 31 = .ok (.invokespecial 60, 3) := by decide +kernel
theorem dX6_way_34 : decode cX6_way 34 = .ok (.athrow, 1) := by decide +kernel
theorem dX6_way_35 : decode cX6_way 35 = .ok (.iload_n 3, 1) := by decide +kernel
theorem dX6_way_36 : decode cX6_way 36 = .ok (.iconst 1, 1) := by decide +kernel
theorem dX6_way_37 : decode cX6_way 37 = .ok (.if_icmp .ne 16, 3) := by decide +kernel
theorem dX6_way_40 : decode cX6_way 40 = .ok (.aload_n 0, 1) := by decide +kernel
theorem dX6_way_41 : decode cX6_way 41 = .ok (.getfield 21, 3) := by decide +kernel
theorem dX6_way_44 : decode cX6_way 44 = .ok (.getfield 205, 3) := by decide +kernel
theorem dX6_way_47 : decode cX6_way 47 = .ok (.iload_n 1, 1) := by decide +kernel
theorem dX6_way_48 : decode cX6_way 48 = .ok (.iload_n 2, 1) := by decide +kernel
theorem dX6_way_49 : decode cX6_way 49 = .ok (.invokevirtual 209, 3) := by decide +kernel
theorem dX6_way_52 : decode cX6_way 52 = .ok (.ireturn, 1) := by decide +kernel
theorem dX6_way_53 : decode cX6_way 53 = .ok (.aload_n 0, 1) := by decide +kernel
theorem dX6_way_54 : decode cX6_way 54 = .ok (.getfield 21, 3) := by decide +kernel
theorem dX6_way_57 : decode cX6_way 57 = .ok (.getfield 205, 3) := by decide +kernel
theorem dX6_way_60 : decode cX6_way 60 = .ok (.iload_n 1, 1) := by decide +kernel
theorem dX6_way_61 : decode cX6_way 61 = .ok (.iload_n 2, 1) := by decide +kernel
theorem dX6_way_62 : decode cX6_way 62 = .ok (.invokevirtual 214, 3) := by decide +kernel
theorem dX6_way_65 : decode cX6_way 65 = .ok (.istore 4, 2) := by decide +kernel
theorem dX6_way_67 : decode cX6_way 67 = .ok (.iload 4, 2) := by decide +kernel
theorem dX6_way_69 : decode cX6_way 69 = .ok (.ldc 217, 2) := by decide +kernel
theorem dX6_way_71 : decode cX6_way 71 = .ok (.if_icmp .ge 8, 3) := by decide +kernel
theorem dX6_way_74 : decode cX6_way 74 = .ok (.iload 4, 2) := by decide +kernel
theorem dX6_way_76 : decode cX6_way 76 = .ok (.goto 4, 3) := by decide +kernel
theorem dX6_way_79 : decode cX6_way 79 = .ok (.iconst (-1), 1) := by decide +kernel
theorem dX6_way_80 : decode cX6_way 80 = .ok (.ireturn, 1) := by decide +kernel
set_option maxRecDepth 20000 in
theorem ggX6_fire_X6_isStation : GoodIn wsX6_fire wsX6_isStation := goodIn_r _ [8, 3, 9, 10, 7, 11, 34, 35, 36, 37, 38, 39, 40, 41, 42, 43, 44] (by decide +kernel) (by decide +kernel)
set_option maxRecDepth 20000 in
theorem gX6_fire_X6_isStation : GoodIn wsX6_fire (wsV RX6 52 RX6 yX6_isStation wsX6_isStation) := goodIn_app (goodIn_of _ (by decide +kernel)) ggX6_fire_X6_isStation
set_option maxRecDepth 20000 in
theorem ggX6_fire_X0_hoursOfFire : GoodIn wsX6_fire wsX0_hoursOfFire := goodIn_r _ [16, 17, 18, 7, 19, 20, 21, 22, 23, 24, 15, 25, 26, 27, 28, 29, 30, 31, 32, 33, 37, 38, 39, 40, 41, 42, 43, 44, 45] (by decide +kernel) (by decide +kernel)
set_option maxRecDepth 20000 in
theorem gX6_fire_X0_hoursOfFire : GoodIn wsX6_fire (wsV RX6 218 RX0 yX0_hoursOfFire wsX0_hoursOfFire) := goodIn_app (goodIn_of _ (by decide +kernel)) ggX6_fire_X0_hoursOfFire
theorem dX6_fire_0 : decode cX6_fire 0 = .ok (.aload_n 0, 1) := by decide +kernel
theorem dX6_fire_1 : decode cX6_fire 1 = .ok (.iload_n 1, 1) := by decide +kernel
theorem dX6_fire_2 : decode cX6_fire 2 = .ok (.invokevirtual 52, 3) := by decide +kernel
theorem dX6_fire_5 : decode cX6_fire 5 = .ok (.ifCond .eq 11, 3) := by decide +kernel
theorem dX6_fire_8 : decode cX6_fire 8 = .ok (.aload_n 0, 1) := by decide +kernel
theorem dX6_fire_9 : decode cX6_fire 9 = .ok (.iload_n 2, 1) := by decide +kernel
theorem dX6_fire_10 : decode cX6_fire 10 = .ok (.invokevirtual 52, 3) := by decide +kernel
theorem dX6_fire_13 : decode cX6_fire 13 = .ok (.ifCond .ne 13, 3) := by decide +kernel
theorem dX6_fire_16 : decode cX6_fire 16 = .ok (.new 56, 3) := by decide +kernel
theorem dX6_fire_19 : decode cX6_fire 19 = .ok (.dup, 1) := by decide +kernel
theorem dX6_fire_20 : decode cX6_fire 20 = .ok (.ldc 58, 2) := by decide +kernel
theorem dX6_fire_22 : decode cX6_fire 22 = .ok (.invokespecial 60, 3) := by decide +kernel
theorem dX6_fire_25 : decode cX6_fire 25 = .ok (.athrow, 1) := by decide +kernel
theorem dX6_fire_26 : decode cX6_fire 26 = .ok (.aload_n 0, 1) := by decide +kernel
theorem dX6_fire_27 : decode cX6_fire 27 = .ok (.getfield 10, 3) := by decide +kernel
theorem dX6_fire_30 : decode cX6_fire 30 = .ok (.iload_n 1, 1) := by decide +kernel
theorem dX6_fire_31 : decode cX6_fire 31 = .ok (.iload_n 2, 1) := by decide +kernel
theorem dX6_fire_32 : decode cX6_fire 32 = .ok (.invokevirtual 218, 3) := by decide +kernel
theorem dX6_fire_35 : decode cX6_fire 35 = .ok (.ireturn, 1) := by decide +kernel
set_option maxRecDepth 20000 in
theorem ggX6_foresee_X6_isLetter : GoodIn wsX6_foresee wsX6_isLetter := goodIn_r _ [11, 6, 12, 13, 10, 14, 210, 211, 212, 213, 214, 215, 216, 217, 218, 219, 220, 221, 222, 223, 224, 225, 226, 227, 228, 229, 230, 231] (by decide +kernel) (by decide +kernel)
set_option maxRecDepth 20000 in
theorem gX6_foresee_X6_isLetter : GoodIn wsX6_foresee (wsV RX6 162 RX6 yX6_isLetter wsX6_isLetter) := goodIn_app (goodIn_of _ (by decide +kernel)) ggX6_foresee_X6_isLetter
set_option maxRecDepth 20000 in
theorem ggX6_foresee_X6_isWithin : GoodIn wsX6_foresee wsX6_isWithin := goodIn_r _ [14] (by decide +kernel) (by decide +kernel)
set_option maxRecDepth 20000 in
theorem gX6_foresee_X6_isWithin : GoodIn wsX6_foresee (va_wsS RX6 28 yX6_isWithin wsX6_isWithin) := goodIn_app (goodIn_of _ (by decide +kernel)) ggX6_foresee_X6_isWithin
set_option maxRecDepth 20000 in
theorem ggX6_foresee_X4_copyFrom : GoodIn wsX6_foresee wsX4_copyFrom := goodIn_r _ [19, 20, 21, 22, 23, 24, 25, 26, 27, 28, 29, 30, 31, 32, 33, 34, 35, 36, 37, 38, 39, 40, 41, 42, 43, 44, 45, 46, 47, 48, 49, 50, 51, 52, 53, 54, 55, 56, 57, 58, 59, 60, 61, 62, 63, 64, 65, 66, 67, 68, 69, 70, 71, 72, 73, 74, 75, 213, 214, 215, 216, 217, 218, 219, 232, 233, 234, 235, 236, 237, 238, 239, 240, 220, 221, 222, 223, 224, 225, 226, 227, 228, 229, 230, 231] (by decide +kernel) (by decide +kernel)
set_option maxRecDepth 20000 in
theorem gX6_foresee_X4_copyFrom : GoodIn wsX6_foresee (wsV RX6 223 RX4 yX4_copyFrom wsX4_copyFrom) := goodIn_app (goodIn_of _ (by decide +kernel)) ggX6_foresee_X4_copyFrom
set_option maxRecDepth 20000 in
theorem ggX6_foresee_X4_letHoursGoBy : GoodIn wsX6_foresee wsX4_letHoursGoBy := goodIn_r _ [79, 22, 23, 80, 81, 82, 61, 83, 63, 67, 84, 85, 86, 35, 87, 37, 88, 89, 90, 18, 91, 21, 92, 93, 94, 49, 95, 55, 96, 97, 98, 99, 100, 101, 102, 103, 104, 105, 106, 107, 108, 109, 69, 110, 111, 112, 113, 68, 71, 73, 114, 115, 116, 117, 118, 64, 65, 119, 120, 121, 122, 123, 124, 125, 126, 127, 70, 128, 129, 130, 131, 132, 133, 134, 135, 136, 10, 137, 138, 139, 140, 141, 142, 143, 144, 145, 146, 147, 148, 149, 150, 151, 152, 153, 154, 155, 156, 20, 157, 158, 159, 160, 28, 161, 31, 162, 163, 164, 165, 166, 167, 168, 169, 170, 171, 172, 173, 174, 175, 176, 24, 177, 178, 179, 180, 181, 182, 183, 184, 185, 186, 187, 188, 189, 40, 190, 191, 192, 193, 194, 195, 51, 52, 196, 197, 198, 199, 200, 201, 202, 203, 204, 205, 206, 207, 208, 54, 213, 214, 215, 216, 217, 218, 219, 220, 221, 222, 223, 224, 225, 226, 227, 228, 229, 230, 231, 234, 235, 236, 237, 238, 239, 240, 241, 242, 243, 244, 245, 246, 247, 248, 232, 233] (by decide +kernel) (by decide +kernel)
set_option maxRecDepth 20000 in
theorem gX6_foresee_X4_letHoursGoBy : GoodIn wsX6_foresee (wsV RX6 195 RX4 yX4_letHoursGoBy wsX4_letHoursGoBy) := goodIn_app (goodIn_of _ (by decide +kernel)) ggX6_foresee_X4_letHoursGoBy
set_option maxRecDepth 20000 in
theorem ggX6_foresee_X3_get : GoodIn wsX6_foresee wsX3_get := goodIn_r _ [87, 37, 234] (by decide +kernel) (by decide +kernel)
set_option maxRecDepth 20000 in
theorem gX6_foresee_X3_get : GoodIn wsX6_foresee (wsV RX6 71 RX3 yX3_get wsX3_get) := goodIn_app (goodIn_of _ (by decide +kernel)) ggX6_foresee_X3_get
theorem dX6_foresee_0 : decode cX6_foresee 0 = .ok (.aload_n 0, 1) := by decide +kernel
theorem dX6_foresee_1 : decode cX6_foresee 1 = .ok (.iload_n 1, 1) := by decide +kernel
theorem dX6_foresee_2 : decode cX6_foresee 2 = .ok (.invokevirtual 162, 3) := by decide +kernel
theorem dX6_foresee_5 : decode cX6_foresee 5 = .ok (.ifCond .ne 13, 3) := by decide +kernel
theorem dX6_foresee_8 : decode cX6_foresee 8 = .ok (.new 56, 3) := by decide +kernel
theorem dX6_foresee_11 : decode cX6_foresee 11 = .ok (.dup, 1) := by decide +kernel
theorem dX6_foresee_12 : decode cX6_foresee 12 = .ok (.ldc 165, 2) := by decide +kernel
theorem dX6_foresee_14 : decode cX6_foresee 14 = .ok (.invokespecial 60, 3) := by decide +kernel
theorem dX6_foresee_17 : decode cX6_foresee 17 = .ok (.athrow, 1) := by decide +kernel
theorem dX6_foresee_18 : decode cX6_foresee 18 = .ok (.iload_n 2, 1) := by decide +kernel
theorem dX6_foresee_19 : decode cX6_foresee 19 = .ok (.iconst 0, 1) := by decide +kernel
theorem dX6_foresee_20 : decode cX6_foresee 20 = .ok (.sipush 300, 3) := by decide +kernel
theorem dX6_foresee_23 : decode cX6_foresee 23 = .ok (.invokestatic 28, 3) := by decide +kernel
theorem dX6_foresee_26 : decode cX6_foresee 26 = .ok (.ifCond .ne 13, 3) := by decide +kernel
theorem dX6_foresee_29 : decode cX6_foresee 29 = .ok (.new 32, 3) := by decide +kernel
theorem dX6_foresee_32 : decode cX6_foresee 32 = .ok (.dup, 1) := by decide +kernel
theorem dX6_foresee_33 : decode cX6_foresee 33 = .ok (.ldc 221, 2) := by decide +kernel
theorem dX6_foresee_35 : decode cX6_foresee 35 = .ok (.invokespecial 36, 3) := by decide +kernel
theorem dX6_foresee_38 : decode cX6_foresee 38 = .ok (.athrow, 1) := by decide +kernel
theorem dX6_foresee_39 : decode cX6_foresee 39 = .ok (.aload_n 0, 1) := by decide +kernel
theorem dX6_foresee_40 : decode cX6_foresee 40 = .ok (.getfield 25, 3) := by decide +kernel
theorem dX6_foresee_43 : decode cX6_foresee 43 = .ok (.aload_n 0, 1) := by decide +kernel
theorem dX6_foresee_44 : decode cX6_foresee 44 = .ok (.getfield 21, 3) := by decide +kernel
theorem dX6_foresee_47 : decode cX6_foresee 47 = .ok (.invokevirtual 223, 3) := by decide +kernel
theorem dX6_foresee_50 : decode cX6_foresee 50 = .ok (.aload_n 0, 1) := by decide +kernel
theorem dX6_foresee_51 : decode cX6_foresee 51 = .ok (.getfield 25, 3) := by decide +kernel
theorem dX6_foresee_54 : decode cX6_foresee 54 = .ok (.iload_n 2, 1) := by decide +kernel
theorem dX6_foresee_55 : decode cX6_foresee 55 = .ok (.invokevirtual 195, 3) := by decide +kernel
theorem dX6_foresee_58 : decode cX6_foresee 58 = .ok (.pop, 1) := by decide +kernel
theorem dX6_foresee_59 : decode cX6_foresee 59 = .ok (.aload_n 0, 1) := by decide +kernel
theorem dX6_foresee_60 : decode cX6_foresee 60 = .ok (.getfield 25, 3) := by decide +kernel
theorem dX6_foresee_63 : decode cX6_foresee 63 = .ok (.getfield 146, 3) := by decide +kernel
theorem dX6_foresee_66 : decode cX6_foresee 66 = .ok (.getfield 227, 3) := by decide +kernel
theorem dX6_foresee_69 : decode cX6_foresee 69 = .ok (.iload_n 1, 1) := by decide +kernel
theorem dX6_foresee_70 : decode cX6_foresee 70 = .ok (.invokevirtual 71, 3) := by decide +kernel
theorem dX6_foresee_73 : decode cX6_foresee 73 = .ok (.ireturn, 1) := by decide +kernel
set_option maxRecDepth 20000 in
theorem ggX6_arrives_X6_isLetter : GoodIn wsX6_arrives wsX6_isLetter := goodIn_r _ [9, 4, 10, 11, 8, 12, 208, 209, 210, 211, 212, 213, 214, 215, 216, 217, 218, 219, 220, 221, 222, 223, 224, 225, 226, 227, 228, 229] (by decide +kernel) (by decide +kernel)
set_option maxRecDepth 20000 in
theorem gX6_arrives_X6_isLetter : GoodIn wsX6_arrives (wsV RX6 162 RX6 yX6_isLetter wsX6_isLetter) := goodIn_app (goodIn_of _ (by decide +kernel)) ggX6_arrives_X6_isLetter
set_option maxRecDepth 20000 in
theorem ggX6_arrives_X4_copyFrom : GoodIn wsX6_arrives wsX4_copyFrom := goodIn_r _ [17, 18, 19, 20, 21, 22, 23, 24, 25, 26, 27, 28, 29, 30, 31, 32, 33, 34, 35, 36, 37, 38, 39, 40, 41, 42, 43, 44, 45, 46, 47, 48, 49, 50, 51, 52, 53, 54, 55, 56, 57, 58, 59, 60, 61, 62, 63, 64, 65, 66, 67, 68, 69, 70, 71, 72, 73, 211, 212, 213, 214, 215, 216, 217, 230, 231, 232, 233, 234, 235, 236, 237, 238, 218, 219, 220, 221, 222, 223, 224, 225, 226, 227, 228, 229] (by decide +kernel) (by decide +kernel)
set_option maxRecDepth 20000 in
theorem gX6_arrives_X4_copyFrom : GoodIn wsX6_arrives (wsV RX6 223 RX4 yX4_copyFrom wsX4_copyFrom) := goodIn_app (goodIn_of _ (by decide +kernel)) ggX6_arrives_X4_copyFrom
set_option maxRecDepth 20000 in
theorem ggX6_arrives_X4_letHoursGoBy : GoodIn wsX6_arrives wsX4_letHoursGoBy := goodIn_r _ [77, 20, 21, 78, 79, 80, 59, 81, 61, 65, 82, 83, 84, 33, 85, 35, 86, 87, 88, 16, 89, 19, 90, 91, 92, 47, 93, 53, 94, 95, 96, 97, 98, 99, 100, 101, 102, 103, 104, 105, 106, 107, 67, 108, 109, 110, 111, 66, 69, 71, 112, 113, 114, 115, 116, 62, 63, 117, 118, 119, 120, 121, 122, 123, 124, 125, 68, 126, 127, 128, 129, 130, 131, 132, 133, 134, 8, 135, 136, 137, 138, 139, 140, 141, 142, 143, 144, 145, 146, 147, 148, 149, 150, 151, 152, 153, 154, 18, 155, 156, 157, 158, 26, 159, 29, 160, 161, 162, 163, 164, 165, 166, 167, 168, 169, 170, 171, 172, 173, 174, 22, 175, 176, 177, 178, 179, 180, 181, 182, 183, 184, 185, 186, 187, 38, 188, 189, 190, 191, 192, 193, 49, 50, 194, 195, 196, 197, 198, 199, 200, 201, 202, 203, 204, 205, 206, 52, 211, 212, 213, 214, 215, 216, 217, 218, 219, 220, 221, 222, 223, 224, 225, 226, 227, 228, 229, 232, 233, 234, 235, 236, 237, 238, 239, 240, 241, 242, 243, 244, 245, 246, 230, 231] (by decide +kernel) (by decide +kernel)
set_option maxRecDepth 20000 in
theorem gX6_arrives_X4_letHoursGoBy : GoodIn wsX6_arrives (wsV RX6 195 RX4 yX4_letHoursGoBy wsX4_letHoursGoBy) := goodIn_app (goodIn_of _ (by decide +kernel)) ggX6_arrives_X4_letHoursGoBy
set_option maxRecDepth 20000 in
theorem ggX6_arrives_X3_get : GoodIn wsX6_arrives wsX3_get := goodIn_r _ [85, 35, 232] (by decide +kernel) (by decide +kernel)
set_option maxRecDepth 20000 in
theorem gX6_arrives_X3_get : GoodIn wsX6_arrives (wsV RX6 71 RX3 yX3_get wsX3_get) := goodIn_app (goodIn_of _ (by decide +kernel)) ggX6_arrives_X3_get
theorem dX6_arrives_0 : decode cX6_arrives 0 = .ok (.aload_n 0, 1) := by decide +kernel
theorem dX6_arrives_1 : decode cX6_arrives 1 = .ok (.iload_n 1, 1) := by decide +kernel
theorem dX6_arrives_2 : decode cX6_arrives 2 = .ok (.invokevirtual 162, 3) := by decide +kernel
theorem dX6_arrives_5 : decode cX6_arrives 5 = .ok (.ifCond .ne 13, 3) := by decide +kernel
theorem dX6_arrives_8 : decode cX6_arrives 8 = .ok (.new 56, 3) := by decide +kernel
theorem dX6_arrives_11 : decode cX6_arrives 11 = .ok (.dup, 1) := by decide +kernel
theorem dX6_arrives_12 : decode cX6_arrives 12 = .ok (.ldc 165, 2) := by decide +kernel
theorem dX6_arrives_14 : decode cX6_arrives 14 = .ok (.invokespecial 60, 3) := by decide +kernel
theorem dX6_arrives_17 : decode cX6_arrives 17 = .ok (.athrow, 1) := by decide +kernel
theorem dX6_arrives_18 : decode cX6_arrives 18 = .ok (.aload_n 0, 1) := by decide +kernel
theorem dX6_arrives_19 : decode cX6_arrives 19 = .ok (.getfield 25, 3) := by decide +kernel
theorem dX6_arrives_22 : decode cX6_arrives 22 = .ok (.aload_n 0, 1) := by decide +kernel
theorem dX6_arrives_23 : decode cX6_arrives 23 = .ok (.getfield 21, 3) := by decide +kernel
theorem dX6_arrives_26 : decode cX6_arrives 26 = .ok (.invokevirtual 223, 3) := by decide +kernel
theorem dX6_arrives_29 : decode cX6_arrives 29 = .ok (.aload_n 0, 1) := by decide +kernel
theorem dX6_arrives_30 : decode cX6_arrives 30 = .ok (.getfield 25, 3) := by decide +kernel
theorem dX6_arrives_33 : decode cX6_arrives 33 = .ok (.sipush 300, 3) := by decide +kernel
theorem dX6_arrives_36 : decode cX6_arrives 36 = .ok (.invokevirtual 195, 3) := by decide +kernel
theorem dX6_arrives_39 : decode cX6_arrives 39 = .ok (.pop, 1) := by decide +kernel
theorem dX6_arrives_40 : decode cX6_arrives 40 = .ok (.aload_n 0, 1) := by decide +kernel
theorem dX6_arrives_41 : decode cX6_arrives 41 = .ok (.getfield 25, 3) := by decide +kernel
theorem dX6_arrives_44 : decode cX6_arrives 44 = .ok (.getfield 146, 3) := by decide +kernel
theorem dX6_arrives_47 : decode cX6_arrives 47 = .ok (.getfield 230, 3) := by decide +kernel
theorem dX6_arrives_50 : decode cX6_arrives 50 = .ok (.iload_n 1, 1) := by decide +kernel
theorem dX6_arrives_51 : decode cX6_arrives 51 = .ok (.invokevirtual 71, 3) := by decide +kernel
theorem dX6_arrives_54 : decode cX6_arrives 54 = .ok (.ireturn, 1) := by decide +kernel
set_option maxRecDepth 20000 in
theorem ggX6_advise_X6_isWithin : GoodIn wsX6_advise wsX6_isWithin := goodIn_r _ [11] (by decide +kernel) (by decide +kernel)
set_option maxRecDepth 20000 in
theorem gX6_advise_X6_isWithin : GoodIn wsX6_advise (va_wsS RX6 28 yX6_isWithin wsX6_isWithin) := goodIn_app (goodIn_of _ (by decide +kernel)) ggX6_advise_X6_isWithin
set_option maxRecDepth 20000 in
theorem ggX6_advise_X4_copyFrom : GoodIn wsX6_advise wsX4_copyFrom := goodIn_r _ [16, 17, 18, 19, 20, 21, 22, 23, 24, 25, 26, 27, 28, 29, 30, 31, 32, 33, 34, 35, 36, 37, 38, 39, 40, 41, 42, 43, 44, 45, 46, 47, 48, 49, 50, 51, 52, 53, 54, 55, 56, 57, 58, 59, 60, 61, 62, 63, 64, 65, 66, 67, 68, 69, 70, 71, 72, 247, 248, 249, 250, 251, 252, 253, 268, 269, 270, 254, 255, 256, 257, 258, 259, 271, 272, 273, 274, 275, 276, 277, 278, 279, 280, 281, 282] (by decide +kernel) (by decide +kernel)
set_option maxRecDepth 20000 in
theorem gX6_advise_X4_copyFrom : GoodIn wsX6_advise (wsV RX6 223 RX4 yX4_copyFrom wsX4_copyFrom) := goodIn_app (goodIn_of _ (by decide +kernel)) ggX6_advise_X4_copyFrom
set_option maxRecDepth 20000 in
theorem ggX6_advise_X4_letHoursGoBy : GoodIn wsX6_advise wsX4_letHoursGoBy := goodIn_r _ [76, 19, 20, 77, 78, 79, 58, 80, 60, 64, 81, 82, 83, 32, 84, 34, 85, 86, 87, 15, 88, 18, 89, 90, 91, 46, 92, 52, 93, 94, 95, 96, 97, 98, 99, 100, 101, 102, 103, 104, 105, 106, 66, 107, 108, 109, 110, 65, 68, 70, 111, 112, 113, 114, 115, 61, 62, 116, 117, 118, 119, 120, 121, 122, 123, 124, 67, 125, 126, 127, 128, 129, 130, 131, 132, 133, 10, 134, 135, 136, 137, 138, 139, 140, 141, 142, 143, 144, 145, 146, 147, 148, 149, 150, 151, 152, 153, 17, 154, 155, 156, 157, 25, 158, 28, 159, 160, 161, 162, 163, 164, 165, 166, 167, 168, 169, 170, 171, 172, 173, 21, 174, 175, 176, 177, 178, 179, 180, 181, 182, 183, 184, 185, 186, 37, 187, 188, 189, 190, 191, 192, 48, 49, 193, 194, 195, 196, 197, 198, 199, 200, 201, 202, 203, 204, 205, 51, 247, 248, 249, 250, 251, 252, 253, 271, 272, 273, 274, 275, 276, 277, 278, 279, 280, 281, 282, 270, 254, 255, 256, 257, 258, 259, 260, 261, 262, 263, 264, 265, 266, 267, 268, 269] (by decide +kernel) (by decide +kernel)
set_option maxRecDepth 20000 in
theorem gX6_advise_X4_letHoursGoBy : GoodIn wsX6_advise (wsV RX6 195 RX4 yX4_letHoursGoBy wsX4_letHoursGoBy) := goodIn_app (goodIn_of _ (by decide +kernel)) ggX6_advise_X4_letHoursGoBy
set_option maxRecDepth 20000 in
theorem ggX6_advise_X3_get : GoodIn wsX6_advise wsX3_get := goodIn_r _ [84, 34, 270] (by decide +kernel) (by decide +kernel)
set_option maxRecDepth 20000 in
theorem gX6_advise_X3_get : GoodIn wsX6_advise (wsV RX6 71 RX3 yX3_get wsX3_get) := goodIn_app (goodIn_of _ (by decide +kernel)) ggX6_advise_X3_get
set_option maxRecDepth 20000 in
theorem ggX6_advise_X4_putMule : GoodIn wsX6_advise wsX4_putMule := goodIn_r _ [210, 18, 17, 120, 211, 212, 213, 46, 214, 49, 48, 50, 51, 52, 53, 215, 96, 97, 32, 98, 34, 216, 217, 218, 219, 93, 82, 83, 84, 220, 221, 222, 25, 223, 224, 159, 225, 181, 182, 128, 183, 184, 185, 186, 37, 187, 188, 135, 226, 227, 228, 229, 27, 230, 231, 232, 233, 234, 235, 236, 237, 238, 239, 240, 241, 242, 28, 243, 175, 176, 177, 178, 179, 247, 248, 249, 250, 251, 252, 253, 254, 255, 256, 257, 258, 259, 270, 260, 261, 262, 263, 264, 265, 266, 267, 268, 269] (by decide +kernel) (by decide +kernel)
set_option maxRecDepth 20000 in
theorem gX6_advise_X4_putMule : GoodIn wsX6_advise (wsV RX6 126 RX4 yX4_putMule wsX4_putMule) := goodIn_app (goodIn_of _ (by decide +kernel)) ggX6_advise_X4_putMule
theorem dX6_advise_0 : decode cX6_advise 0 = .ok (.iload_n 1, 1) := by decide +kernel
theorem dX6_advise_1 : decode cX6_advise 1 = .ok (.iconst 1, 1) := by decide +kernel
theorem dX6_advise_2 : decode cX6_advise 2 = .ok (.bipush 50, 2) := by decide +kernel
theorem dX6_advise_4 : decode cX6_advise 4 = .ok (.invokestatic 28, 3) := by decide +kernel
theorem dX6_advise_7 : decode cX6_advise 7 = .ok (.ifCond .ne 13, 3) := by decide +kernel
theorem dX6_advise_10 : decode cX6_advise 10 = .ok (.new 32, 3) := by decide +kernel
theorem dX6_advise_13 : decode cX6_advise 13 = .ok (.dup, 1) := by decide +kernel
theorem dX6_advise_14 : decode cX6_advise 14 = .ok (.ldc 233, 2) := by decide +kernel
theorem dX6_advise_16 : decode cX6_advise 16 = .ok (.invokespecial 36, 3) := by decide +kernel
theorem dX6_advise_19 : decode cX6_advise 19 = .ok (.athrow, 1) := by decide +kernel
theorem dX6_advise_20 : decode cX6_advise 20 = .ok (.aload_n 0, 1) := by decide +kernel
theorem dX6_advise_21 : decode cX6_advise 21 = .ok (.getfield 21, 3) := by decide +kernel
theorem dX6_advise_24 : decode cX6_advise 24 = .ok (.getfield 109, 3) := by decide +kernel
theorem dX6_advise_27 : decode cX6_advise 27 = .ok (.getfield 113, 3) := by decide +kernel
theorem dX6_advise_30 : decode cX6_advise 30 = .ok (.bipush 12, 2) := by decide +kernel
theorem dX6_advise_32 : decode cX6_advise 32 = .ok (.if_icmp .lt 13, 3) := by decide +kernel
theorem dX6_advise_35 : decode cX6_advise 35 = .ok (.new 43, 3) := by decide +kernel
theorem dX6_advise_38 : decode cX6_advise 38 = .ok (.dup, 1) := by decide +kernel
theorem dX6_advise_39 : decode cX6_advise 39 = .ok (.ldc 118, 2) := by decide +kernel
theorem dX6_advise_41 : decode cX6_advise 41 = .ok (.invokespecial 47, 3) := by decide +kernel
theorem dX6_advise_44 : decode cX6_advise 44 = .ok (.athrow, 1) := by decide +kernel
theorem dX6_advise_45 : decode cX6_advise 45 = .ok (.aload_n 0, 1) := by decide +kernel
theorem dX6_advise_46 : decode cX6_advise 46 = .ok (.getfield 25, 3) := by decide +kernel
theorem dX6_advise_49 : decode cX6_advise 49 = .ok (.aload_n 0, 1) := by decide +kernel
theorem dX6_advise_50 : decode cX6_advise 50 = .ok (.getfield 21, 3) := by decide +kernel
theorem dX6_advise_53 : decode cX6_advise 53 = .ok (.invokevirtual 223, 3) := by decide +kernel
theorem dX6_advise_56 : decode cX6_advise 56 = .ok (.aload_n 0, 1) := by decide +kernel
theorem dX6_advise_57 : decode cX6_advise 57 = .ok (.getfield 25, 3) := by decide +kernel
theorem dX6_advise_60 : decode cX6_advise 60 = .ok (.iload_n 1, 1) := by decide +kernel
theorem dX6_advise_61 : decode cX6_advise 61 = .ok (.invokevirtual 195, 3) := by decide +kernel
theorem dX6_advise_64 : decode cX6_advise 64 = .ok (.istore_n 2, 1) := by decide +kernel
theorem dX6_advise_65 : decode cX6_advise 65 = .ok (.iconst (-1), 1) := by decide +kernel
theorem dX6_advise_66 : decode cX6_advise 66 = .ok (.istore_n 3, 1) := by decide +kernel
theorem dX6_advise_67 : decode cX6_advise 67 = .ok (.iconst 0, 1) := by decide +kernel
theorem dX6_advise_68 : decode cX6_advise 68 = .ok (.istore 4, 2) := by decide +kernel
theorem dX6_advise_70 : decode cX6_advise 70 = .ok (.iload 4, 2) := by decide +kernel
theorem dX6_advise_72 : decode cX6_advise 72 = .ok (.aload_n 0, 1) := by decide +kernel
theorem dX6_advise_73 : decode cX6_advise 73 = .ok (.getfield 10, 3) := by decide +kernel
theorem dX6_advise_76 : decode cX6_advise 76 = .ok (.getfield 93, 3) := by decide +kernel
theorem dX6_advise_79 : decode cX6_advise 79 = .ok (.if_icmp .ge 66, 3) := by decide +kernel
theorem dX6_advise_82 : decode cX6_advise 82 = .ok (.aload_n 0, 1) := by decide +kernel
theorem dX6_advise_83 : decode cX6_advise 83 = .ok (.getfield 25, 3) := by decide +kernel
theorem dX6_advise_86 : decode cX6_advise 86 = .ok (.aload_n 0, 1) := by decide +kernel
theorem dX6_advise_87 : decode cX6_advise 87 = .ok (.getfield 21, 3) := by decide +kernel
theorem dX6_advise_90 : decode cX6_advise 90 = .ok (.invokevirtual 223, 3) := by decide +kernel
theorem dX6_advise_93 : decode cX6_advise 93 = .ok (.aload_n 0, 1) := by decide +kernel
theorem dX6_advise_94 : decode cX6_advise 94 = .ok (.getfield 25, 3) := by decide +kernel
theorem dX6_advise_97 : decode cX6_advise 97 = .ok (.iload 4, 2) := by decide +kernel
theorem dX6_advise_99 : decode cX6_advise 99 = .ok (.bipush 6, 2) := by decide +kernel
theorem dX6_advise_101 : decode cX6_advise 101 = .ok (.aload_n 0, 1) := by decide +kernel
theorem dX6_advise_102 : decode cX6_advise 102 = .ok (.getfield 10, 3) := by decide +kernel
theorem dX6_advise_105 : decode cX6_advise 105 = .ok (.getfield 123, 3) := by decide +kernel
theorem dX6_advise_108 : decode cX6_advise 108 = .ok (.iload 4, 2) := by decide +kernel
theorem dX6_advise_110 : decode cX6_advise 110 = .ok (.invokevirtual 71, 3) := by decide +kernel
theorem dX6_advise_113 : decode cX6_advise 113 = .ok (.invokevirtual 126, 3) := by decide +kernel
theorem dX6_advise_116 : decode cX6_advise 116 = .ok (.pop, 1) := by decide +kernel
theorem dX6_advise_117 : decode cX6_advise 117 = .ok (.aload_n 0, 1) := by decide +kernel
theorem dX6_advise_118 : decode cX6_advise 118 = .ok (.getfield 25, 3) := by decide +kernel
theorem dX6_advise_121 : decode cX6_advise 121 = .ok (.iload_n 1, 1) := by decide +kernel
theorem dX6_advise_122 : decode cX6_advise 122 = .ok (.invokevirtual 195, 3) := by decide +kernel
theorem dX6_advise_125 : decode cX6_advise 125 = .ok (.istore 5, 2) := by decide +kernel
theorem dX6_advise_127 : decode cX6_advise 127 = .ok (.iload 5, 2) := by decide +kernel
theorem dX6_advise_129 : decode cX6_advise 129 = .ok (.iload_n 2, 1) := by decide +kernel
theorem dX6_advise_130 : decode cX6_advise 130 = .ok (.if_icmp .le 9, 3) := by decide +kernel
theorem dX6_advise_133 : decode cX6_advise 133 = .ok (.iload 5, 2) := by decide +kernel
theorem dX6_advise_135 : decode cX6_advise 135 = .ok (.istore_n 2, 1) := by decide +kernel
theorem dX6_advise_136 : decode cX6_advise 136 = .ok (.iload 4, 2) := by decide +kernel
theorem dX6_advise_138 : decode cX6_advise 138 = .ok (.istore_n 3, 1) := by decide +kernel
theorem dX6_advise_139 : decode cX6_advise 139 = .ok (.iinc 4 1, 3) := by decide +kernel
theorem dX6_advise_142 : decode cX6_advise 142 = .ok (.goto (-72), 3) := by decide +kernel
theorem dX6_advise_145 : decode cX6_advise 145 = .ok (.iload_n 3, 1) := by decide +kernel
theorem dX6_advise_146 : decode cX6_advise 146 = .ok (.ireturn, 1) := by decide +kernel
set_option maxRecDepth 20000 in
theorem ggX6_mean_X3_get : GoodIn wsX6_mean wsX3_get := goodIn_r _ [6, 7, 30] (by decide +kernel) (by decide +kernel)
set_option maxRecDepth 20000 in
theorem gX6_mean_X3_get : GoodIn wsX6_mean (wsV RX6 71 RX3 yX3_get wsX3_get) := goodIn_app (goodIn_of _ (by decide +kernel)) ggX6_mean_X3_get
theorem dX6_mean_0 : decode cX6_mean 0 = .ok (.iconst 0, 1) := by decide +kernel
theorem dX6_mean_1 : decode cX6_mean 1 = .ok (.istore_n 1, 1) := by decide +kernel
theorem dX6_mean_2 : decode cX6_mean 2 = .ok (.iconst 0, 1) := by decide +kernel
theorem dX6_mean_3 : decode cX6_mean 3 = .ok (.istore_n 2, 1) := by decide +kernel
theorem dX6_mean_4 : decode cX6_mean 4 = .ok (.aload_n 0, 1) := by decide +kernel
theorem dX6_mean_5 : decode cX6_mean 5 = .ok (.getfield 21, 3) := by decide +kernel
theorem dX6_mean_8 : decode cX6_mean 8 = .ok (.getfield 146, 3) := by decide +kernel
theorem dX6_mean_11 : decode cX6_mean 11 = .ok (.astore_n 3, 1) := by decide +kernel
theorem dX6_mean_12 : decode cX6_mean 12 = .ok (.iconst 0, 1) := by decide +kernel
theorem dX6_mean_13 : decode cX6_mean 13 = .ok (.istore 4, 2) := by decide +kernel
theorem dX6_mean_15 : decode cX6_mean 15 = .ok (.iload 4, 2) := by decide +kernel
theorem dX6_mean_17 : decode cX6_mean 17 = .ok (.aload_n 3, 1) := by decide +kernel
theorem dX6_mean_18 : decode cX6_mean 18 = .ok (.getfield 150, 3) := by decide +kernel
theorem dX6_mean_21 : decode cX6_mean 21 = .ok (.if_icmp .ge 47, 3) := by decide +kernel
theorem dX6_mean_24 : decode cX6_mean 24 = .ok (.aload_n 3, 1) := by decide +kernel
theorem dX6_mean_25 : decode cX6_mean 25 = .ok (.getfield 227, 3) := by decide +kernel
theorem dX6_mean_28 : decode cX6_mean 28 = .ok (.iload 4, 2) := by decide +kernel
theorem dX6_mean_30 : decode cX6_mean 30 = .ok (.invokevirtual 71, 3) := by decide +kernel
theorem dX6_mean_33 : decode cX6_mean 33 = .ok (.iconst 2, 1) := by decide +kernel
theorem dX6_mean_34 : decode cX6_mean 34 = .ok (.if_icmp .ne 28, 3) := by decide +kernel
theorem dX6_mean_37 : decode cX6_mean 37 = .ok (.iinc 1 1, 3) := by decide +kernel
theorem dX6_mean_40 : decode cX6_mean 40 = .ok (.iload_n 2, 1) := by decide +kernel
theorem dX6_mean_41 : decode cX6_mean 41 = .ok (.aload_n 3, 1) := by decide +kernel
theorem dX6_mean_42 : decode cX6_mean 42 = .ok (.getfield 230, 3) := by decide +kernel
theorem dX6_mean_45 : decode cX6_mean 45 = .ok (.iload 4, 2) := by decide +kernel
theorem dX6_mean_47 : decode cX6_mean 47 = .ok (.invokevirtual 71, 3) := by decide +kernel
theorem dX6_mean_50 : decode cX6_mean 50 = .ok (.aload_n 3, 1) := by decide +kernel
theorem dX6_mean_51 : decode cX6_mean 51 = .ok (.getfield 235, 3) := by decide +kernel
theorem dX6_mean_54 : decode cX6_mean 54 = .ok (.iload 4, 2) := by decide +kernel
theorem dX6_mean_56 : decode cX6_mean 56 = .ok (.invokevirtual 71, 3) := by decide +kernel
theorem dX6_mean_59 : decode cX6_mean 59 = .ok (.isub, 1) := by decide +kernel
theorem dX6_mean_60 : decode cX6_mean 60 = .ok (.iadd, 1) := by decide +kernel
theorem dX6_mean_61 : decode cX6_mean 61 = .ok (.istore_n 2, 1) := by decide +kernel
theorem dX6_mean_62 : decode cX6_mean 62 = .ok (.iinc 4 1, 3) := by decide +kernel
theorem dX6_mean_65 : decode cX6_mean 65 = .ok (.goto (-50), 3) := by decide +kernel
theorem dX6_mean_68 : decode cX6_mean 68 = .ok (.iload_n 1, 1) := by decide +kernel
theorem dX6_mean_69 : decode cX6_mean 69 = .ok (.ifCond .le 11, 3) := by decide +kernel
theorem dX6_mean_72 : decode cX6_mean 72 = .ok (.iload_n 2, 1) := by decide +kernel
theorem dX6_mean_73 : decode cX6_mean 73 = .ok (.i2d, 1) := by decide +kernel
theorem dX6_mean_74 : decode cX6_mean 74 = .ok (.iload_n 1, 1) := by decide +kernel
theorem dX6_mean_75 : decode cX6_mean 75 = .ok (.i2d, 1) := by decide +kernel
theorem dX6_mean_76 : decode cX6_mean 76 = .ok (.ddiv, 1) := by decide +kernel
theorem dX6_mean_77 : decode cX6_mean 77 = .ok (.goto 4, 3) := by decide +kernel
theorem dX6_mean_80 : decode cX6_mean 80 = .ok (.dconst 0, 1) := by decide +kernel
theorem dX6_mean_81 : decode cX6_mean 81 = .ok (.dreturn, 1) := by decide +kernel
set_option maxRecDepth 20000 in
theorem ggX6_digest_X6_tellCount : GoodIn wsX6_digest wsX6_tellCount := goodIn_r _ [9, 4, 3, 10, 11, 12, 13, 14, 15, 16, 17, 18, 19, 20, 21, 22, 103, 104, 105, 114, 115, 116, 117, 118, 119, 120, 106, 107, 108, 109, 110, 111, 112, 113, 121, 122, 123, 124, 125, 126, 127, 128, 129, 130, 131, 132, 133, 134, 135, 136, 137, 138, 139] (by decide +kernel) (by decide +kernel)
set_option maxRecDepth 20000 in
theorem gX6_digest_X6_tellCount : GoodIn wsX6_digest (wsV RX6 200 RX6 yX6_tellCount wsX6_tellCount) := goodIn_app (goodIn_of _ (by decide +kernel)) ggX6_digest_X6_tellCount
set_option maxRecDepth 20000 in
theorem ggX6_digest_X6_tellStation : GoodIn wsX6_digest wsX6_tellStation := goodIn_r _ [26, 3, 4, 27, 18, 19, 20, 21, 22, 28, 29, 30, 13, 31, 15, 16, 32, 17, 33, 34, 35, 36, 37, 38, 39, 40, 41, 42, 43, 44, 45, 46, 47, 48, 49, 50, 51, 52, 53, 54, 8, 55, 103, 104, 105, 106, 107, 108, 109, 110, 111, 112, 113, 114, 115, 116, 117, 118, 119, 120, 139, 127, 128, 129, 130, 131, 132, 133, 134, 135, 136, 137, 138, 121, 122, 123, 124, 125, 126] (by decide +kernel) (by decide +kernel)
set_option maxRecDepth 20000 in
theorem gX6_digest_X6_tellStation : GoodIn wsX6_digest (wsV RX6 131 RX6 yX6_tellStation wsX6_tellStation) := goodIn_app (goodIn_of _ (by decide +kernel)) ggX6_digest_X6_tellStation
set_option maxRecDepth 20000 in
theorem ggX6_digest_X6_tellRoad : GoodIn wsX6_digest wsX6_tellRoad := goodIn_r _ [59, 3, 4, 27, 18, 19, 20, 21, 22, 60, 61, 62, 63, 64, 65, 66, 67, 68, 69, 70, 71, 72, 73, 74, 36, 75, 38, 76, 40, 77, 78, 79, 80, 41, 42, 43, 44, 45, 103, 104, 105, 106, 107, 108, 109, 110, 111, 112, 113, 114, 115, 116, 117, 118, 119, 120, 139, 121, 122, 123, 124, 125, 126] (by decide +kernel) (by decide +kernel)
set_option maxRecDepth 20000 in
theorem gX6_digest_X6_tellRoad : GoodIn wsX6_digest (wsV RX6 136 RX6 yX6_tellRoad wsX6_tellRoad) := goodIn_app (goodIn_of _ (by decide +kernel)) ggX6_digest_X6_tellRoad
set_option maxRecDepth 20000 in
theorem ggX6_digest_X6_tellMule : GoodIn wsX6_digest wsX6_tellMule := goodIn_r _ [84, 4, 27, 18, 19, 20, 21, 22, 85, 86, 87, 13, 88, 15, 89, 90, 91, 92, 16, 93, 17, 103, 104, 105, 114, 115, 116, 117, 118, 119, 120, 121, 122, 123, 124, 125, 126, 139, 127, 128, 129, 130, 131, 132, 133, 134, 135, 136, 137, 138] (by decide +kernel) (by decide +kernel)
set_option maxRecDepth 20000 in
theorem gX6_digest_X6_tellMule : GoodIn wsX6_digest (wsV RX6 141 RX6 yX6_tellMule wsX6_tellMule) := goodIn_app (goodIn_of _ (by decide +kernel)) ggX6_digest_X6_tellMule
set_option maxRecDepth 20000 in
theorem ggX6_digest_X6_tellLetter : GoodIn wsX6_digest wsX6_tellLetter := goodIn_r _ [97, 4, 27, 18, 19, 20, 21, 22, 98, 99, 100, 13, 101, 102, 17, 46, 47, 48, 49, 50, 51, 52, 103, 104, 105, 114, 115, 116, 117, 118, 119, 120, 127, 128, 129, 130, 131, 132, 133, 134, 135, 136, 137, 138, 139] (by decide +kernel) (by decide +kernel)
set_option maxRecDepth 20000 in
theorem gX6_digest_X6_tellLetter : GoodIn wsX6_digest (wsV RX6 190 RX6 yX6_tellLetter wsX6_tellLetter) := goodIn_app (goodIn_of _ (by decide +kernel)) ggX6_digest_X6_tellLetter
theorem dX6_digest_0 : decode cX6_digest 0 = .ok (.ldc2_w 238, 3) := by decide +kernel
theorem dX6_digest_3 : decode cX6_digest 3 = .ok (.lstore_n 1, 1) := by decide +kernel
theorem dX6_digest_4 : decode cX6_digest 4 = .ok (.iconst 0, 1) := by decide +kernel
theorem dX6_digest_5 : decode cX6_digest 5 = .ok (.istore_n 3, 1) := by decide +kernel
theorem dX6_digest_6 : decode cX6_digest 6 = .ok (.iload_n 3, 1) := by decide +kernel
theorem dX6_digest_7 : decode cX6_digest 7 = .ok (.bipush 10, 2) := by decide +kernel
theorem dX6_digest_9 : decode cX6_digest 9 = .ok (.if_icmp .ge 22, 3) := by decide +kernel
theorem dX6_digest_12 : decode cX6_digest 12 = .ok (.lload_n 1, 1) := by decide +kernel
theorem dX6_digest_13 : decode cX6_digest 13 = .ok (.ldc2_w 240, 3) := by decide +kernel
theorem dX6_digest_16 : decode cX6_digest 16 = .ok (.lmul, 1) := by decide +kernel
theorem dX6_digest_17 : decode cX6_digest 17 = .ok (.aload_n 0, 1) := by decide +kernel
theorem dX6_digest_18 : decode cX6_digest 18 = .ok (.iload_n 3, 1) := by decide +kernel
theorem dX6_digest_19 : decode cX6_digest 19 = .ok (.invokevirtual 200, 3) := by decide +kernel
theorem dX6_digest_22 : decode cX6_digest 22 = .ok (.i2l, 1) := by decide +kernel
theorem dX6_digest_23 : decode cX6_digest 23 = .ok (.ladd, 1) := by decide +kernel
theorem dX6_digest_24 : decode cX6_digest 24 = .ok (.lstore_n 1, 1) := by decide +kernel
theorem dX6_digest_25 : decode cX6_digest 25 = .ok (.iinc 3 1, 3) := by decide +kernel
theorem dX6_digest_28 : decode cX6_digest 28 = .ok (.goto (-22), 3) := by decide +kernel
theorem dX6_digest_31 : decode cX6_digest 31 = .ok (.iconst 0, 1) := by decide +kernel
theorem dX6_digest_32 : decode cX6_digest 32 = .ok (.istore_n 3, 1) := by decide +kernel
theorem dX6_digest_33 : decode cX6_digest 33 = .ok (.iload_n 3, 1) := by decide +kernel
theorem dX6_digest_34 : decode cX6_digest 34 = .ok (.aload_n 0, 1) := by decide +kernel
theorem dX6_digest_35 : decode cX6_digest 35 = .ok (.getfield 10, 3) := by decide +kernel
theorem dX6_digest_38 : decode cX6_digest 38 = .ok (.getfield 39, 3) := by decide +kernel
theorem dX6_digest_41 : decode cX6_digest 41 = .ok (.iconst 5, 1) := by decide +kernel
theorem dX6_digest_42 : decode cX6_digest 42 = .ok (.imul, 1) := by decide +kernel
theorem dX6_digest_43 : decode cX6_digest 43 = .ok (.if_icmp .ge 27, 3) := by decide +kernel
theorem dX6_digest_46 : decode cX6_digest 46 = .ok (.lload_n 1, 1) := by decide +kernel
theorem dX6_digest_47 : decode cX6_digest 47 = .ok (.ldc2_w 240, 3) := by decide +kernel
theorem dX6_digest_50 : decode cX6_digest 50 = .ok (.lmul, 1) := by decide +kernel
theorem dX6_digest_51 : decode cX6_digest 51 = .ok (.aload_n 0, 1) := by decide +kernel
theorem dX6_digest_52 : decode cX6_digest 52 = .ok (.iload_n 3, 1) := by decide +kernel
theorem dX6_digest_53 : decode cX6_digest 53 = .ok (.iconst 5, 1) := by decide +kernel
theorem dX6_digest_54 : decode cX6_digest 54 = .ok (.idiv, 1) := by decide +kernel
theorem dX6_digest_55 : decode cX6_digest 55 = .ok (.iload_n 3, 1) := by decide +kernel
theorem dX6_digest_56 : decode cX6_digest 56 = .ok (.iconst 5, 1) := by decide +kernel
theorem dX6_digest_57 : decode cX6_digest 57 = .ok (.irem, 1) := by decide +kernel
theorem dX6_digest_58 : decode cX6_digest 58 = .ok (.invokevirtual 131, 3) := by decide +kernel
theorem dX6_digest_61 : decode cX6_digest 61 = .ok (.i2l, 1) := by decide +kernel
theorem dX6_digest_62 : decode cX6_digest 62 = .ok (.ladd, 1) := by decide +kernel
theorem dX6_digest_63 : decode cX6_digest 63 = .ok (.lstore_n 1, 1) := by decide +kernel
theorem dX6_digest_64 : decode cX6_digest 64 = .ok (.iinc 3 1, 3) := by decide +kernel
theorem dX6_digest_67 : decode cX6_digest 67 = .ok (.goto (-34), 3) := by decide +kernel
theorem dX6_digest_70 : decode cX6_digest 70 = .ok (.iconst 0, 1) := by decide +kernel
theorem dX6_digest_71 : decode cX6_digest 71 = .ok (.istore_n 3, 1) := by decide +kernel
theorem dX6_digest_72 : decode cX6_digest 72 = .ok (.iload_n 3, 1) := by decide +kernel
theorem dX6_digest_73 : decode cX6_digest 73 = .ok (.aload_n 0, 1) := by decide +kernel
theorem dX6_digest_74 : decode cX6_digest 74 = .ok (.getfield 10, 3) := by decide +kernel
theorem dX6_digest_77 : decode cX6_digest 77 = .ok (.getfield 93, 3) := by decide +kernel
theorem dX6_digest_80 : decode cX6_digest 80 = .ok (.bipush 6, 2) := by decide +kernel
theorem dX6_digest_82 : decode cX6_digest 82 = .ok (.imul, 1) := by decide +kernel
theorem dX6_digest_83 : decode cX6_digest 83 = .ok (.if_icmp .ge 29, 3) := by decide +kernel
theorem dX6_digest_86 : decode cX6_digest 86 = .ok (.lload_n 1, 1) := by decide +kernel
theorem dX6_digest_87 : decode cX6_digest 87 = .ok (.ldc2_w 240, 3) := by decide +kernel
theorem dX6_digest_90 : decode cX6_digest 90 = .ok (.lmul, 1) := by decide +kernel
theorem dX6_digest_91 : decode cX6_digest 91 = .ok (.aload_n 0, 1) := by decide +kernel
theorem dX6_digest_92 : decode cX6_digest 92 = .ok (.iload_n 3, 1) := by decide +kernel
theorem dX6_digest_93 : decode cX6_digest 93 = .ok (.bipush 6, 2) := by decide +kernel
theorem dX6_digest_95 : decode cX6_digest 95 = .ok (.idiv, 1) := by decide +kernel
theorem dX6_digest_96 : decode cX6_digest 96 = .ok (.iload_n 3, 1) := by decide +kernel
theorem dX6_digest_97 : decode cX6_digest 97 = .ok (.bipush 6, 2) := by decide +kernel
theorem dX6_digest_99 : decode cX6_digest 99 = .ok (.irem, 1) := by decide +kernel
theorem dX6_digest_100 : decode cX6_digest 100 = .ok (.invokevirtual 136, 3) := by decide +kernel
theorem dX6_digest_103 : decode cX6_digest 103 = .ok (.i2l, 1) := by decide +kernel
theorem dX6_digest_104 : decode cX6_digest 104 = .ok (.ladd, 1) := by decide +kernel
theorem dX6_digest_105 : decode cX6_digest 105 = .ok (.lstore_n 1, 1) := by decide +kernel
theorem dX6_digest_106 : decode cX6_digest 106 = .ok (.iinc 3 1, 3) := by decide +kernel
theorem dX6_digest_109 : decode cX6_digest 109 = .ok (.goto (-37), 3) := by decide +kernel
theorem dX6_digest_112 : decode cX6_digest 112 = .ok (.iconst 0, 1) := by decide +kernel
theorem dX6_digest_113 : decode cX6_digest 113 = .ok (.istore_n 3, 1) := by decide +kernel
theorem dX6_digest_114 : decode cX6_digest 114 = .ok (.iload_n 3, 1) := by decide +kernel
theorem dX6_digest_115 : decode cX6_digest 115 = .ok (.aload_n 0, 1) := by decide +kernel
theorem dX6_digest_116 : decode cX6_digest 116 = .ok (.getfield 21, 3) := by decide +kernel
theorem dX6_digest_119 : decode cX6_digest 119 = .ok (.getfield 109, 3) := by decide +kernel
theorem dX6_digest_122 : decode cX6_digest 122 = .ok (.getfield 113, 3) := by decide +kernel
theorem dX6_digest_125 : decode cX6_digest 125 = .ok (.bipush 6, 2) := by decide +kernel
theorem dX6_digest_127 : decode cX6_digest 127 = .ok (.imul, 1) := by decide +kernel
theorem dX6_digest_128 : decode cX6_digest 128 = .ok (.if_icmp .ge 29, 3) := by decide +kernel
theorem dX6_digest_131 : decode cX6_digest 131 = .ok (.lload_n 1, 1) := by decide +kernel
theorem dX6_digest_132 : decode cX6_digest 132 = .ok (.ldc2_w 240, 3) := by decide +kernel
theorem dX6_digest_135 : decode cX6_digest 135 = .ok (.lmul, 1) := by decide +kernel
theorem dX6_digest_136 : decode cX6_digest 136 = .ok (.aload_n 0, 1) := by decide +kernel
theorem dX6_digest_137 : decode cX6_digest 137 = .ok (.iload_n 3, 1) := by decide +kernel
theorem dX6_digest_138 : decode cX6_digest 138 = .ok (.bipush 6, 2) := by decide +kernel
theorem dX6_digest_140 : decode cX6_digest 140 = .ok (.idiv, 1) := by decide +kernel
theorem dX6_digest_141 : decode cX6_digest 141 = .ok (.iload_n 3, 1) := by decide +kernel
theorem dX6_digest_142 : decode cX6_digest 142 = .ok (.bipush 6, 2) := by decide +kernel
theorem dX6_digest_144 : decode cX6_digest 144 = .ok (.irem, 1) := by decide +kernel
theorem dX6_digest_145 : decode cX6_digest 145 = .ok (.invokevirtual 141, 3) := by decide +kernel
theorem dX6_digest_148 : decode cX6_digest 148 = .ok (.i2l, 1) := by decide +kernel
theorem dX6_digest_149 : decode cX6_digest 149 = .ok (.ladd, 1) := by decide +kernel
theorem dX6_digest_150 : decode cX6_digest 150 = .ok (.lstore_n 1, 1) := by decide +kernel
theorem dX6_digest_151 : decode cX6_digest 151 = .ok (.iinc 3 1, 3) := by decide +kernel
theorem dX6_digest_154 : decode cX6_digest 154 = .ok (.goto (-40), 3) := by decide +kernel
theorem dX6_digest_157 : decode cX6_digest 157 = .ok (.iconst 0, 1) := by decide +kernel
theorem dX6_digest_158 : decode cX6_digest 158 = .ok (.istore_n 3, 1) := by decide +kernel
theorem dX6_digest_159 : decode cX6_digest 159 = .ok (.iload_n 3, 1) := by decide +kernel
theorem dX6_digest_160 : decode cX6_digest 160 = .ok (.aload_n 0, 1) := by decide +kernel
theorem dX6_digest_161 : decode cX6_digest 161 = .ok (.getfield 21, 3) := by decide +kernel
theorem dX6_digest_164 : decode cX6_digest 164 = .ok (.getfield 146, 3) := by decide +kernel
theorem dX6_digest_167 : decode cX6_digest 167 = .ok (.getfield 150, 3) := by decide +kernel
theorem dX6_digest_170 : decode cX6_digest 170 = .ok (.bipush 11, 2) := by decide +kernel
theorem dX6_digest_172 : decode cX6_digest 172 = .ok (.imul, 1) := by decide +kernel
theorem dX6_digest_173 : decode cX6_digest 173 = .ok (.if_icmp .ge 29, 3) := by decide +kernel
theorem dX6_digest_176 : decode cX6_digest 176 = .ok (.lload_n 1, 1) := by decide +kernel
theorem dX6_digest_177 : decode cX6_digest 177 = .ok (.ldc2_w 240, 3) := by decide +kernel
theorem dX6_digest_180 : decode cX6_digest 180 = .ok (.lmul, 1) := by decide +kernel
theorem dX6_digest_181 : decode cX6_digest 181 = .ok (.aload_n 0, 1) := by decide +kernel
theorem dX6_digest_182 : decode cX6_digest 182 = .ok (.iload_n 3, 1) := by decide +kernel
theorem dX6_digest_183 : decode cX6_digest 183 = .ok (.bipush 11, 2) := by decide +kernel
theorem dX6_digest_185 : decode cX6_digest 185 = .ok (.idiv, 1) := by decide +kernel
theorem dX6_digest_186 : decode cX6_digest 186 = .ok (.iload_n 3, 1) := by decide +kernel
theorem dX6_digest_187 : decode cX6_digest 187 = .ok (.bipush 11, 2) := by decide +kernel
theorem dX6_digest_189 : decode cX6_digest 189 = .ok (.irem, 1) := by decide +kernel
theorem dX6_digest_190 : decode cX6_digest 190 = .ok (.invokevirtual 190, 3) := by decide +kernel
theorem dX6_digest_193 : decode cX6_digest 193 = .ok (.i2l, 1) := by decide +kernel
theorem dX6_digest_194 : decode cX6_digest 194 = .ok (.ladd, 1) := by decide +kernel
theorem dX6_digest_195 : decode cX6_digest 195 = .ok (.lstore_n 1, 1) := by decide +kernel
theorem dX6_digest_196 : decode cX6_digest 196 = .ok (.iinc 3 1, 3) := by decide +kernel
theorem dX6_digest_199 : decode cX6_digest 199 = .ok (.goto (-40), 3) := by decide +kernel
theorem dX6_digest_202 : decode cX6_digest 202 = .ok (.lload_n 1, 1) := by decide +kernel
theorem dX6_digest_203 : decode cX6_digest 203 = .ok (.lreturn, 1) := by decide +kernel
set_option maxRecDepth 20000 in
theorem ggX6_isStation_X6_isWithin : GoodIn wsX6_isStation wsX6_isWithin := goodIn_r _ [5] (by decide +kernel) (by decide +kernel)
set_option maxRecDepth 20000 in
theorem gX6_isStation_X6_isWithin : GoodIn wsX6_isStation (va_wsS RX6 28 yX6_isWithin wsX6_isWithin) := goodIn_app (goodIn_of _ (by decide +kernel)) ggX6_isStation_X6_isWithin
theorem dX6_isStation_0 : decode cX6_isStation 0 = .ok (.iload_n 1, 1) := by decide +kernel
theorem dX6_isStation_1 : decode cX6_isStation 1 = .ok (.iconst 0, 1) := by decide +kernel
theorem dX6_isStation_2 : decode cX6_isStation 2 = .ok (.aload_n 0, 1) := by decide +kernel
theorem dX6_isStation_3 : decode cX6_isStation 3 = .ok (.getfield 10, 3) := by decide +kernel
theorem dX6_isStation_6 : decode cX6_isStation 6 = .ok (.getfield 39, 3) := by decide +kernel
theorem dX6_isStation_9 : decode cX6_isStation 9 = .ok (.iconst 1, 1) := by decide +kernel
theorem dX6_isStation_10 : decode cX6_isStation 10 = .ok (.isub, 1) := by decide +kernel
theorem dX6_isStation_11 : decode cX6_isStation 11 = .ok (.invokestatic 28, 3) := by decide +kernel
theorem dX6_isStation_14 : decode cX6_isStation 14 = .ok (.ireturn, 1) := by decide +kernel
set_option maxRecDepth 20000 in
theorem ggX6_isRoad_X6_isWithin : GoodIn wsX6_isRoad wsX6_isWithin := goodIn_r _ [5] (by decide +kernel) (by decide +kernel)
set_option maxRecDepth 20000 in
theorem gX6_isRoad_X6_isWithin : GoodIn wsX6_isRoad (va_wsS RX6 28 yX6_isWithin wsX6_isWithin) := goodIn_app (goodIn_of _ (by decide +kernel)) ggX6_isRoad_X6_isWithin
theorem dX6_isRoad_0 : decode cX6_isRoad 0 = .ok (.iload_n 1, 1) := by decide +kernel
theorem dX6_isRoad_1 : decode cX6_isRoad 1 = .ok (.iconst 0, 1) := by decide +kernel
theorem dX6_isRoad_2 : decode cX6_isRoad 2 = .ok (.aload_n 0, 1) := by decide +kernel
theorem dX6_isRoad_3 : decode cX6_isRoad 3 = .ok (.getfield 10, 3) := by decide +kernel
theorem dX6_isRoad_6 : decode cX6_isRoad 6 = .ok (.getfield 93, 3) := by decide +kernel
theorem dX6_isRoad_9 : decode cX6_isRoad 9 = .ok (.iconst 1, 1) := by decide +kernel
theorem dX6_isRoad_10 : decode cX6_isRoad 10 = .ok (.isub, 1) := by decide +kernel
theorem dX6_isRoad_11 : decode cX6_isRoad 11 = .ok (.invokestatic 28, 3) := by decide +kernel
theorem dX6_isRoad_14 : decode cX6_isRoad 14 = .ok (.ireturn, 1) := by decide +kernel
set_option maxRecDepth 20000 in
theorem ggX6_isLetter_X6_isWithin : GoodIn wsX6_isLetter wsX6_isWithin := goodIn_r _ [5] (by decide +kernel) (by decide +kernel)
set_option maxRecDepth 20000 in
theorem gX6_isLetter_X6_isWithin : GoodIn wsX6_isLetter (va_wsS RX6 28 yX6_isWithin wsX6_isWithin) := goodIn_app (goodIn_of _ (by decide +kernel)) ggX6_isLetter_X6_isWithin
theorem dX6_isLetter_0 : decode cX6_isLetter 0 = .ok (.iload_n 1, 1) := by decide +kernel
theorem dX6_isLetter_1 : decode cX6_isLetter 1 = .ok (.iconst 0, 1) := by decide +kernel
theorem dX6_isLetter_2 : decode cX6_isLetter 2 = .ok (.aload_n 0, 1) := by decide +kernel
theorem dX6_isLetter_3 : decode cX6_isLetter 3 = .ok (.getfield 21, 3) := by decide +kernel
theorem dX6_isLetter_6 : decode cX6_isLetter 6 = .ok (.getfield 146, 3) := by decide +kernel
theorem dX6_isLetter_9 : decode cX6_isLetter 9 = .ok (.getfield 150, 3) := by decide +kernel
theorem dX6_isLetter_12 : decode cX6_isLetter 12 = .ok (.iconst 1, 1) := by decide +kernel
theorem dX6_isLetter_13 : decode cX6_isLetter 13 = .ok (.isub, 1) := by decide +kernel
theorem dX6_isLetter_14 : decode cX6_isLetter 14 = .ok (.invokestatic 28, 3) := by decide +kernel
theorem dX6_isLetter_17 : decode cX6_isLetter 17 = .ok (.ireturn, 1) := by decide +kernel
theorem dX6_isWithin_0 : decode cX6_isWithin 0 = .ok (.iload_n 0, 1) := by decide +kernel
theorem dX6_isWithin_1 : decode cX6_isWithin 1 = .ok (.iload_n 1, 1) := by decide +kernel
theorem dX6_isWithin_2 : decode cX6_isWithin 2 = .ok (.if_icmp .lt 12, 3) := by decide +kernel
theorem dX6_isWithin_5 : decode cX6_isWithin 5 = .ok (.iload_n 0, 1) := by decide +kernel
theorem dX6_isWithin_6 : decode cX6_isWithin 6 = .ok (.iload_n 2, 1) := by decide +kernel
theorem dX6_isWithin_7 : decode cX6_isWithin 7 = .ok (.if_icmp .gt 7, 3) := by decide +kernel
theorem dX6_isWithin_10 : decode cX6_isWithin 10 = .ok (.iconst 1, 1) := by decide +kernel
theorem dX6_isWithin_11 : decode cX6_isWithin 11 = .ok (.goto 4, 3) := by decide +kernel
theorem dX6_isWithin_14 : decode cX6_isWithin 14 = .ok (.iconst 0, 1) := by decide +kernel
theorem dX6_isWithin_15 : decode cX6_isWithin 15 = .ok (.ireturn, 1) := by decide +kernel
set_option maxRecDepth 20000 in
theorem ggX6_tellStation_X3_get : GoodIn wsX6_tellStation wsX3_get := goodIn_r _ [7, 8, 60] (by decide +kernel) (by decide +kernel)
set_option maxRecDepth 20000 in
theorem gX6_tellStation_X3_get : GoodIn wsX6_tellStation (wsV RX6 71 RX3 yX3_get wsX3_get) := goodIn_app (goodIn_of _ (by decide +kernel)) ggX6_tellStation_X3_get
set_option maxRecDepth 20000 in
theorem ggX6_tellStation_X1_waitingAt : GoodIn wsX6_tellStation wsX1_waitingAt := goodIn_r _ [13, 14, 15, 16, 17, 4, 5, 6, 7, 8, 61, 62, 63, 64, 65, 66, 67, 68, 69, 70, 71, 72, 60] (by decide +kernel) (by decide +kernel)
set_option maxRecDepth 20000 in
theorem gX6_tellStation_X1_waitingAt : GoodIn wsX6_tellStation (wsV RX6 245 RX1 yX1_waitingAt wsX1_waitingAt) := goodIn_app (goodIn_of _ (by decide +kernel)) ggX6_tellStation_X1_waitingAt
set_option maxRecDepth 20000 in
theorem ggX6_tellStation_X2_standingAt : GoodIn wsX6_tellStation wsX2_standingAt := goodIn_r _ [22, 23, 24, 25, 4, 5, 6, 7, 8, 26, 27, 28, 21, 29, 30, 73, 74, 75, 76, 77, 78, 60] (by decide +kernel) (by decide +kernel)
set_option maxRecDepth 20000 in
theorem gX6_tellStation_X2_standingAt : GoodIn wsX6_tellStation (wsV RX6 248 RX2 yX2_standingAt wsX2_standingAt) := goodIn_app (goodIn_of _ (by decide +kernel)) ggX6_tellStation_X2_standingAt
set_option maxRecDepth 20000 in
theorem ggX6_tellStation_J6_bitCount_0f7a4 : GoodIn wsX6_tellStation wsJ6_bitCount_0f7a4 := goodIn_r _ [34, 35, 36, 37] (by decide +kernel) (by decide +kernel)
set_option maxRecDepth 20000 in
theorem gX6_tellStation_J6_bitCount_0f7a4 : GoodIn wsX6_tellStation (va_wsS RX6 76 yJ6_bitCount_0f7a4 wsJ6_bitCount_0f7a4) := goodIn_app (goodIn_of _ (by decide +kernel)) ggX6_tellStation_J6_bitCount_0f7a4
set_option maxRecDepth 20000 in
theorem ggX6_tellStation_X6_has : GoodIn wsX6_tellStation wsX6_has := goodIn_r _ [41] (by decide +kernel) (by decide +kernel)
set_option maxRecDepth 20000 in
theorem gX6_tellStation_X6_has : GoodIn wsX6_tellStation (va_wsS RX6 251 yX6_has wsX6_has) := goodIn_app (goodIn_of _ (by decide +kernel)) ggX6_tellStation_X6_has
theorem dX6_tellStation_0 : decode cX6_tellStation 0 = .ok (.iload_n 2, 1) := by decide +kernel
theorem dX6_tellStation_1 : decode cX6_tellStation 1 = .ok (.tableswitch 82 0 3 #[31, 43, 55, 67], 31) := by decide +kernel
theorem dX6_tellStation_32 : decode cX6_tellStation 32 = .ok (.aload_n 0, 1) := by decide +kernel
theorem dX6_tellStation_33 : decode cX6_tellStation 33 = .ok (.getfield 10, 3) := by decide +kernel
theorem dX6_tellStation_36 : decode cX6_tellStation 36 = .ok (.getfield 242, 3) := by decide +kernel
theorem dX6_tellStation_39 : decode cX6_tellStation 39 = .ok (.iload_n 1, 1) := by decide +kernel
theorem dX6_tellStation_40 : decode cX6_tellStation 40 = .ok (.invokevirtual 71, 3) := by decide +kernel
theorem dX6_tellStation_43 : decode cX6_tellStation 43 = .ok (.ireturn, 1) := by decide +kernel
theorem dX6_tellStation_44 : decode cX6_tellStation 44 = .ok (.aload_n 0, 1) := by decide +kernel
theorem dX6_tellStation_45 : decode cX6_tellStation 45 = .ok (.getfield 21, 3) := by decide +kernel
theorem dX6_tellStation_48 : decode cX6_tellStation 48 = .ok (.getfield 146, 3) := by decide +kernel
theorem dX6_tellStation_51 : decode cX6_tellStation 51 = .ok (.iload_n 1, 1) := by decide +kernel
theorem dX6_tellStation_52 : decode cX6_tellStation 52 = .ok (.invokevirtual 245, 3) := by decide +kernel
theorem dX6_tellStation_55 : decode cX6_tellStation 55 = .ok (.ireturn, 1) := by decide +kernel
theorem dX6_tellStation_56 : decode cX6_tellStation 56 = .ok (.aload_n 0, 1) := by decide +kernel
theorem dX6_tellStation_57 : decode cX6_tellStation 57 = .ok (.getfield 21, 3) := by decide +kernel
theorem dX6_tellStation_60 : decode cX6_tellStation 60 = .ok (.getfield 109, 3) := by decide +kernel
theorem dX6_tellStation_63 : decode cX6_tellStation 63 = .ok (.iload_n 1, 1) := by decide +kernel
theorem dX6_tellStation_64 : decode cX6_tellStation 64 = .ok (.invokevirtual 248, 3) := by decide +kernel
theorem dX6_tellStation_67 : decode cX6_tellStation 67 = .ok (.ireturn, 1) := by decide +kernel
theorem dX6_tellStation_68 : decode cX6_tellStation 68 = .ok (.aload_n 0, 1) := by decide +kernel
theorem dX6_tellStation_69 : decode cX6_tellStation 69 = .ok (.getfield 10, 3) := by decide +kernel
theorem dX6_tellStation_72 : decode cX6_tellStation 72 = .ok (.getfield 67, 3) := by decide +kernel
theorem dX6_tellStation_75 : decode cX6_tellStation 75 = .ok (.iload_n 1, 1) := by decide +kernel
theorem dX6_tellStation_76 : decode cX6_tellStation 76 = .ok (.invokevirtual 71, 3) := by decide +kernel
theorem dX6_tellStation_79 : decode cX6_tellStation 79 = .ok (.invokestatic 76, 3) := by decide +kernel
theorem dX6_tellStation_82 : decode cX6_tellStation 82 = .ok (.ireturn, 1) := by decide +kernel
theorem dX6_tellStation_83 : decode cX6_tellStation 83 = .ok (.aload_n 0, 1) := by decide +kernel
theorem dX6_tellStation_84 : decode cX6_tellStation 84 = .ok (.getfield 10, 3) := by decide +kernel
theorem dX6_tellStation_87 : decode cX6_tellStation 87 = .ok (.getfield 81, 3) := by decide +kernel
theorem dX6_tellStation_90 : decode cX6_tellStation 90 = .ok (.iload_n 1, 1) := by decide +kernel
theorem dX6_tellStation_91 : decode cX6_tellStation 91 = .ok (.invokestatic 251, 3) := by decide +kernel
theorem dX6_tellStation_94 : decode cX6_tellStation 94 = .ok (.ifCond .eq 7, 3) := by decide +kernel
theorem dX6_tellStation_97 : decode cX6_tellStation 97 = .ok (.iconst 1, 1) := by decide +kernel
theorem dX6_tellStation_98 : decode cX6_tellStation 98 = .ok (.goto 4, 3) := by decide +kernel
theorem dX6_tellStation_101 : decode cX6_tellStation 101 = .ok (.iconst 0, 1) := by decide +kernel
theorem dX6_tellStation_102 : decode cX6_tellStation 102 = .ok (.ireturn, 1) := by decide +kernel
set_option maxRecDepth 20000 in
theorem ggX6_tellRoad_X3_get : GoodIn wsX6_tellRoad wsX3_get := goodIn_r _ [7, 8, 56] (by decide +kernel) (by decide +kernel)
set_option maxRecDepth 20000 in
theorem gX6_tellRoad_X3_get : GoodIn wsX6_tellRoad (wsV RX6 71 RX3 yX3_get wsX3_get) := goodIn_app (goodIn_of _ (by decide +kernel)) ggX6_tellRoad_X3_get
set_option maxRecDepth 20000 in
theorem ggX6_tellRoad_X0_hoursBetween : GoodIn wsX6_tellRoad wsX0_hoursBetween := goodIn_r _ [13, 14, 15, 16, 17, 18, 19, 20, 4, 5, 6, 7, 8, 41, 42, 43, 44, 45, 46, 47, 48, 56] (by decide +kernel) (by decide +kernel)
set_option maxRecDepth 20000 in
theorem gX6_tellRoad_X0_hoursBetween : GoodIn wsX6_tellRoad (wsV RX6 255 RX0 yX0_hoursBetween wsX0_hoursBetween) := goodIn_app (goodIn_of _ (by decide +kernel)) ggX6_tellRoad_X0_hoursBetween
set_option maxRecDepth 20000 in
theorem ggX6_tellRoad_X2_ofRoad : GoodIn wsX6_tellRoad wsX2_ofRoad := goodIn_r _ [25, 26, 27, 28, 4, 5, 6, 7, 8, 57, 58, 59, 60, 61, 62, 56] (by decide +kernel) (by decide +kernel)
set_option maxRecDepth 20000 in
theorem gX6_tellRoad_X2_ofRoad : GoodIn wsX6_tellRoad (wsV RX6 258 RX2 yX2_ofRoad wsX2_ofRoad) := goodIn_app (goodIn_of _ (by decide +kernel)) ggX6_tellRoad_X2_ofRoad
set_option maxRecDepth 20000 in
theorem ggX6_tellRoad_X2_underWayOn : GoodIn wsX6_tellRoad wsX2_underWayOn := goodIn_r _ [32, 26, 27, 28, 4, 5, 6, 7, 8, 33, 34, 35, 24, 36, 37, 57, 58, 59, 60, 61, 62, 56] (by decide +kernel) (by decide +kernel)
set_option maxRecDepth 20000 in
theorem gX6_tellRoad_X2_underWayOn : GoodIn wsX6_tellRoad (wsV RX6 261 RX2 yX2_underWayOn wsX2_underWayOn) := goodIn_app (goodIn_of _ (by decide +kernel)) ggX6_tellRoad_X2_underWayOn
theorem dX6_tellRoad_0 : decode cX6_tellRoad 0 = .ok (.aload_n 0, 1) := by decide +kernel
theorem dX6_tellRoad_1 : decode cX6_tellRoad 1 = .ok (.getfield 10, 3) := by decide +kernel
theorem dX6_tellRoad_4 : decode cX6_tellRoad 4 = .ok (.getfield 123, 3) := by decide +kernel
theorem dX6_tellRoad_7 : decode cX6_tellRoad 7 = .ok (.iload_n 1, 1) := by decide +kernel
theorem dX6_tellRoad_8 : decode cX6_tellRoad 8 = .ok (.invokevirtual 71, 3) := by decide +kernel
theorem dX6_tellRoad_11 : decode cX6_tellRoad 11 = .ok (.istore_n 3, 1) := by decide +kernel
theorem dX6_tellRoad_12 : decode cX6_tellRoad 12 = .ok (.aload_n 0, 1) := by decide +kernel
theorem dX6_tellRoad_13 : decode cX6_tellRoad 13 = .ok (.getfield 10, 3) := by decide +kernel
theorem dX6_tellRoad_16 : decode cX6_tellRoad 16 = .ok (.getfield 120, 3) := by decide +kernel
theorem dX6_tellRoad_19 : decode cX6_tellRoad 19 = .ok (.iload_n 1, 1) := by decide +kernel
theorem dX6_tellRoad_20 : decode cX6_tellRoad 20 = .ok (.invokevirtual 71, 3) := by decide +kernel
theorem dX6_tellRoad_23 : decode cX6_tellRoad 23 = .ok (.istore 4, 2) := by decide +kernel
theorem dX6_tellRoad_25 : decode cX6_tellRoad 25 = .ok (.iload_n 2, 1) := by decide +kernel
theorem dX6_tellRoad_26 : decode cX6_tellRoad 26 = .ok (.tableswitch 75 0 4 #[34, 36, 39, 51, 63], 34) := by decide +kernel
theorem dX6_tellRoad_60 : decode cX6_tellRoad 60 = .ok (.iload_n 3, 1) := by decide +kernel
theorem dX6_tellRoad_61 : decode cX6_tellRoad 61 = .ok (.ireturn, 1) := by decide +kernel
theorem dX6_tellRoad_62 : decode cX6_tellRoad 62 = .ok (.iload 4, 2) := by decide +kernel
theorem dX6_tellRoad_64 : decode cX6_tellRoad 64 = .ok (.ireturn, 1) := by decide +kernel
theorem dX6_tellRoad_65 : decode cX6_tellRoad 65 = .ok (.aload_n 0, 1) := by decide +kernel
theorem dX6_tellRoad_66 : decode cX6_tellRoad 66 = .ok (.getfield 10, 3) := by decide +kernel
theorem dX6_tellRoad_69 : decode cX6_tellRoad 69 = .ok (.iload_n 1, 1) := by decide +kernel
theorem dX6_tellRoad_70 : decode cX6_tellRoad 70 = .ok (.iload_n 3, 1) := by decide +kernel
theorem dX6_tellRoad_71 : decode cX6_tellRoad 71 = .ok (.iload 4, 2) := by decide +kernel
theorem dX6_tellRoad_73 : decode cX6_tellRoad 73 = .ok (.invokevirtual 255, 3) := by decide +kernel
theorem dX6_tellRoad_76 : decode cX6_tellRoad 76 = .ok (.ireturn, 1) := by decide +kernel
theorem dX6_tellRoad_77 : decode cX6_tellRoad 77 = .ok (.aload_n 0, 1) := by decide +kernel
theorem dX6_tellRoad_78 : decode cX6_tellRoad 78 = .ok (.getfield 10, 3) := by decide +kernel
theorem dX6_tellRoad_81 : decode cX6_tellRoad 81 = .ok (.iload_n 1, 1) := by decide +kernel
theorem dX6_tellRoad_82 : decode cX6_tellRoad 82 = .ok (.iload 4, 2) := by decide +kernel
theorem dX6_tellRoad_84 : decode cX6_tellRoad 84 = .ok (.iload_n 3, 1) := by decide +kernel
theorem dX6_tellRoad_85 : decode cX6_tellRoad 85 = .ok (.invokevirtual 255, 3) := by decide +kernel
theorem dX6_tellRoad_88 : decode cX6_tellRoad 88 = .ok (.ireturn, 1) := by decide +kernel
theorem dX6_tellRoad_89 : decode cX6_tellRoad 89 = .ok (.aload_n 0, 1) := by decide +kernel
theorem dX6_tellRoad_90 : decode cX6_tellRoad 90 = .ok (.getfield 21, 3) := by decide +kernel
theorem dX6_tellRoad_93 : decode cX6_tellRoad 93 = .ok (.getfield 109, 3) := by decide +kernel
theorem dX6_tellRoad_96 : decode cX6_tellRoad 96 = .ok (.iload_n 1, 1) := by decide +kernel
theorem dX6_tellRoad_97 : decode cX6_tellRoad 97 = .ok (.invokevirtual 258, 3) := by decide +kernel
theorem dX6_tellRoad_100 : decode cX6_tellRoad 100 = .ok (.ireturn, 1) := by decide +kernel
theorem dX6_tellRoad_101 : decode cX6_tellRoad 101 = .ok (.aload_n 0, 1) := by decide +kernel
theorem dX6_tellRoad_102 : decode cX6_tellRoad 102 = .ok (.getfield 21, 3) := by decide +kernel
theorem dX6_tellRoad_105 : decode cX6_tellRoad 105 = .ok (.getfield 109, 3) := by decide +kernel
theorem dX6_tellRoad_108 : decode cX6_tellRoad 108 = .ok (.iload_n 1, 1) := by decide +kernel
theorem dX6_tellRoad_109 : decode cX6_tellRoad 109 = .ok (.invokevirtual 261, 3) := by decide +kernel
theorem dX6_tellRoad_112 : decode cX6_tellRoad 112 = .ok (.ireturn, 1) := by decide +kernel
set_option maxRecDepth 20000 in
theorem ggX6_tellMule_X3_get : GoodIn wsX6_tellMule wsX3_get := goodIn_r _ [6, 7, 37] (by decide +kernel) (by decide +kernel)
set_option maxRecDepth 20000 in
theorem gX6_tellMule_X3_get : GoodIn wsX6_tellMule (wsV RX6 71 RX3 yX3_get wsX3_get) := goodIn_app (goodIn_of _ (by decide +kernel)) ggX6_tellMule_X3_get
set_option maxRecDepth 20000 in
theorem ggX6_tellMule_X1_carriedBy : GoodIn wsX6_tellMule wsX1_carriedBy := goodIn_r _ [12, 13, 14, 15, 16, 11, 17, 18, 19, 20, 3, 4, 5, 6, 7, 38, 39, 40, 41, 42, 43, 44, 45, 46, 47, 48, 49, 37] (by decide +kernel) (by decide +kernel)
set_option maxRecDepth 20000 in
theorem gX6_tellMule_X1_carriedBy : GoodIn wsX6_tellMule (wsV RX6 276 RX1 yX1_carriedBy wsX1_carriedBy) := goodIn_app (goodIn_of _ (by decide +kernel)) ggX6_tellMule_X1_carriedBy
theorem dX6_tellMule_0 : decode cX6_tellMule 0 = .ok (.aload_n 0, 1) := by decide +kernel
theorem dX6_tellMule_1 : decode cX6_tellMule 1 = .ok (.getfield 21, 3) := by decide +kernel
theorem dX6_tellMule_4 : decode cX6_tellMule 4 = .ok (.getfield 109, 3) := by decide +kernel
theorem dX6_tellMule_7 : decode cX6_tellMule 7 = .ok (.astore_n 3, 1) := by decide +kernel
theorem dX6_tellMule_8 : decode cX6_tellMule 8 = .ok (.iload_n 2, 1) := by decide +kernel
theorem dX6_tellMule_9 : decode cX6_tellMule 9 = .ok (.tableswitch 83 0 4 #[35, 44, 53, 62, 71], 35) := by decide +kernel
theorem dX6_tellMule_44 : decode cX6_tellMule 44 = .ok (.aload_n 3, 1) := by decide +kernel
theorem dX6_tellMule_45 : decode cX6_tellMule 45 = .ok (.getfield 264, 3) := by decide +kernel
theorem dX6_tellMule_48 : decode cX6_tellMule 48 = .ok (.iload_n 1, 1) := by decide +kernel
theorem dX6_tellMule_49 : decode cX6_tellMule 49 = .ok (.invokevirtual 71, 3) := by decide +kernel
theorem dX6_tellMule_52 : decode cX6_tellMule 52 = .ok (.ireturn, 1) := by decide +kernel
theorem dX6_tellMule_53 : decode cX6_tellMule 53 = .ok (.aload_n 3, 1) := by decide +kernel
theorem dX6_tellMule_54 : decode cX6_tellMule 54 = .ok (.getfield 267, 3) := by decide +kernel
theorem dX6_tellMule_57 : decode cX6_tellMule 57 = .ok (.iload_n 1, 1) := by decide +kernel
theorem dX6_tellMule_58 : decode cX6_tellMule 58 = .ok (.invokevirtual 71, 3) := by decide +kernel
theorem dX6_tellMule_61 : decode cX6_tellMule 61 = .ok (.ireturn, 1) := by decide +kernel
theorem dX6_tellMule_62 : decode cX6_tellMule 62 = .ok (.aload_n 3, 1) := by decide +kernel
theorem dX6_tellMule_63 : decode cX6_tellMule 63 = .ok (.getfield 270, 3) := by decide +kernel
theorem dX6_tellMule_66 : decode cX6_tellMule 66 = .ok (.iload_n 1, 1) := by decide +kernel
theorem dX6_tellMule_67 : decode cX6_tellMule 67 = .ok (.invokevirtual 71, 3) := by decide +kernel
theorem dX6_tellMule_70 : decode cX6_tellMule 70 = .ok (.ireturn, 1) := by decide +kernel
theorem dX6_tellMule_71 : decode cX6_tellMule 71 = .ok (.aload_n 3, 1) := by decide +kernel
theorem dX6_tellMule_72 : decode cX6_tellMule 72 = .ok (.getfield 273, 3) := by decide +kernel
theorem dX6_tellMule_75 : decode cX6_tellMule 75 = .ok (.iload_n 1, 1) := by decide +kernel
theorem dX6_tellMule_76 : decode cX6_tellMule 76 = .ok (.invokevirtual 71, 3) := by decide +kernel
theorem dX6_tellMule_79 : decode cX6_tellMule 79 = .ok (.ireturn, 1) := by decide +kernel
theorem dX6_tellMule_80 : decode cX6_tellMule 80 = .ok (.aload_n 0, 1) := by decide +kernel
theorem dX6_tellMule_81 : decode cX6_tellMule 81 = .ok (.getfield 21, 3) := by decide +kernel
theorem dX6_tellMule_84 : decode cX6_tellMule 84 = .ok (.getfield 146, 3) := by decide +kernel
theorem dX6_tellMule_87 : decode cX6_tellMule 87 = .ok (.iload_n 1, 1) := by decide +kernel
theorem dX6_tellMule_88 : decode cX6_tellMule 88 = .ok (.invokevirtual 276, 3) := by decide +kernel
theorem dX6_tellMule_91 : decode cX6_tellMule 91 = .ok (.ireturn, 1) := by decide +kernel
theorem dX6_tellMule_92 : decode cX6_tellMule 92 = .ok (.aload_n 3, 1) := by decide +kernel
theorem dX6_tellMule_93 : decode cX6_tellMule 93 = .ok (.getfield 279, 3) := by decide +kernel
theorem dX6_tellMule_96 : decode cX6_tellMule 96 = .ok (.iload_n 1, 1) := by decide +kernel
theorem dX6_tellMule_97 : decode cX6_tellMule 97 = .ok (.invokevirtual 71, 3) := by decide +kernel
theorem dX6_tellMule_100 : decode cX6_tellMule 100 = .ok (.ireturn, 1) := by decide +kernel
set_option maxRecDepth 20000 in
theorem ggX6_tellLetter_X3_get : GoodIn wsX6_tellLetter wsX3_get := goodIn_r _ [6, 7, 44] (by decide +kernel) (by decide +kernel)
set_option maxRecDepth 20000 in
theorem gX6_tellLetter_X3_get : GoodIn wsX6_tellLetter (wsV RX6 71 RX3 yX3_get wsX3_get) := goodIn_app (goodIn_of _ (by decide +kernel)) ggX6_tellLetter_X3_get
set_option maxRecDepth 20000 in
theorem ggX6_tellLetter_X1_isRecalled : GoodIn wsX6_tellLetter wsX1_isRecalled := goodIn_r _ [12, 13, 14, 3, 4, 5, 6, 7, 32, 33, 34, 35, 36, 37, 38, 39, 40, 41, 42, 43, 44] (by decide +kernel) (by decide +kernel)
set_option maxRecDepth 20000 in
theorem gX6_tellLetter_X1_isRecalled : GoodIn wsX6_tellLetter (wsV RX6 167 RX1 yX1_isRecalled wsX1_isRecalled) := goodIn_app (goodIn_of _ (by decide +kernel)) ggX6_tellLetter_X1_isRecalled
set_option maxRecDepth 20000 in
theorem ggX6_tellLetter_J6_bitCount_0f7a4 : GoodIn wsX6_tellLetter wsJ6_bitCount_0f7a4 := goodIn_r _ [18, 19, 20, 21] (by decide +kernel) (by decide +kernel)
set_option maxRecDepth 20000 in
theorem gX6_tellLetter_J6_bitCount_0f7a4 : GoodIn wsX6_tellLetter (va_wsS RX6 76 yJ6_bitCount_0f7a4 wsJ6_bitCount_0f7a4) := goodIn_app (goodIn_of _ (by decide +kernel)) ggX6_tellLetter_J6_bitCount_0f7a4
theorem dX6_tellLetter_0 : decode cX6_tellLetter 0 = .ok (.aload_n 0, 1) := by decide +kernel
theorem dX6_tellLetter_1 : decode cX6_tellLetter 1 = .ok (.getfield 21, 3) := by decide +kernel
theorem dX6_tellLetter_4 : decode cX6_tellLetter 4 = .ok (.getfield 146, 3) := by decide +kernel
theorem dX6_tellLetter_7 : decode cX6_tellLetter 7 = .ok (.astore_n 3, 1) := by decide +kernel
theorem dX6_tellLetter_8 : decode cX6_tellLetter 8 = .ok (.iload_n 2, 1) := by decide +kernel
theorem dX6_tellLetter_9 : decode cX6_tellLetter 9 = .ok (.tableswitch 150 0 9 #[55, 64, 73, 82, 91, 100, 109, 123, 132, 141], 55) := by decide +kernel
theorem dX6_tellLetter_64 : decode cX6_tellLetter 64 = .ok (.aload_n 3, 1) := by decide +kernel
theorem dX6_tellLetter_65 : decode cX6_tellLetter 65 = .ok (.getfield 175, 3) := by decide +kernel
theorem dX6_tellLetter_68 : decode cX6_tellLetter 68 = .ok (.iload_n 1, 1) := by decide +kernel
theorem dX6_tellLetter_69 : decode cX6_tellLetter 69 = .ok (.invokevirtual 71, 3) := by decide +kernel
theorem dX6_tellLetter_72 : decode cX6_tellLetter 72 = .ok (.ireturn, 1) := by decide +kernel
theorem dX6_tellLetter_73 : decode cX6_tellLetter 73 = .ok (.aload_n 3, 1) := by decide +kernel
theorem dX6_tellLetter_74 : decode cX6_tellLetter 74 = .ok (.getfield 282, 3) := by decide +kernel
theorem dX6_tellLetter_77 : decode cX6_tellLetter 77 = .ok (.iload_n 1, 1) := by decide +kernel
theorem dX6_tellLetter_78 : decode cX6_tellLetter 78 = .ok (.invokevirtual 71, 3) := by decide +kernel
theorem dX6_tellLetter_81 : decode cX6_tellLetter 81 = .ok (.ireturn, 1) := by decide +kernel
theorem dX6_tellLetter_82 : decode cX6_tellLetter 82 = .ok (.aload_n 3, 1) := by decide +kernel
theorem dX6_tellLetter_83 : decode cX6_tellLetter 83 = .ok (.getfield 285, 3) := by decide +kernel
theorem dX6_tellLetter_86 : decode cX6_tellLetter 86 = .ok (.iload_n 1, 1) := by decide +kernel
theorem dX6_tellLetter_87 : decode cX6_tellLetter 87 = .ok (.invokevirtual 71, 3) := by decide +kernel
theorem dX6_tellLetter_90 : decode cX6_tellLetter 90 = .ok (.ireturn, 1) := by decide +kernel
theorem dX6_tellLetter_91 : decode cX6_tellLetter 91 = .ok (.aload_n 3, 1) := by decide +kernel
theorem dX6_tellLetter_92 : decode cX6_tellLetter 92 = .ok (.getfield 227, 3) := by decide +kernel
theorem dX6_tellLetter_95 : decode cX6_tellLetter 95 = .ok (.iload_n 1, 1) := by decide +kernel
theorem dX6_tellLetter_96 : decode cX6_tellLetter 96 = .ok (.invokevirtual 71, 3) := by decide +kernel
theorem dX6_tellLetter_99 : decode cX6_tellLetter 99 = .ok (.ireturn, 1) := by decide +kernel
theorem dX6_tellLetter_100 : decode cX6_tellLetter 100 = .ok (.aload_n 3, 1) := by decide +kernel
theorem dX6_tellLetter_101 : decode cX6_tellLetter 101 = .ok (.getfield 288, 3) := by decide +kernel
theorem dX6_tellLetter_104 : decode cX6_tellLetter 104 = .ok (.iload_n 1, 1) := by decide +kernel
theorem dX6_tellLetter_105 : decode cX6_tellLetter 105 = .ok (.invokevirtual 71, 3) := by decide +kernel
theorem dX6_tellLetter_108 : decode cX6_tellLetter 108 = .ok (.ireturn, 1) := by decide +kernel
theorem dX6_tellLetter_109 : decode cX6_tellLetter 109 = .ok (.aload_n 3, 1) := by decide +kernel
theorem dX6_tellLetter_110 : decode cX6_tellLetter 110 = .ok (.getfield 289, 3) := by decide +kernel
theorem dX6_tellLetter_113 : decode cX6_tellLetter 113 = .ok (.iload_n 1, 1) := by decide +kernel
theorem dX6_tellLetter_114 : decode cX6_tellLetter 114 = .ok (.invokevirtual 71, 3) := by decide +kernel
theorem dX6_tellLetter_117 : decode cX6_tellLetter 117 = .ok (.ireturn, 1) := by decide +kernel
theorem dX6_tellLetter_118 : decode cX6_tellLetter 118 = .ok (.aload_n 3, 1) := by decide +kernel
theorem dX6_tellLetter_119 : decode cX6_tellLetter 119 = .ok (.iload_n 1, 1) := by decide +kernel
theorem dX6_tellLetter_120 : decode cX6_tellLetter 120 = .ok (.invokevirtual 167, 3) := by decide +kernel
theorem dX6_tellLetter_123 : decode cX6_tellLetter 123 = .ok (.ifCond .eq 7, 3) := by decide +kernel
theorem dX6_tellLetter_126 : decode cX6_tellLetter 126 = .ok (.iconst 1, 1) := by decide +kernel
theorem dX6_tellLetter_127 : decode cX6_tellLetter 127 = .ok (.goto 4, 3) := by decide +kernel
theorem dX6_tellLetter_130 : decode cX6_tellLetter 130 = .ok (.iconst 0, 1) := by decide +kernel
theorem dX6_tellLetter_131 : decode cX6_tellLetter 131 = .ok (.ireturn, 1) := by decide +kernel
theorem dX6_tellLetter_132 : decode cX6_tellLetter 132 = .ok (.aload_n 3, 1) := by decide +kernel
theorem dX6_tellLetter_133 : decode cX6_tellLetter 133 = .ok (.getfield 292, 3) := by decide +kernel
theorem dX6_tellLetter_136 : decode cX6_tellLetter 136 = .ok (.iload_n 1, 1) := by decide +kernel
theorem dX6_tellLetter_137 : decode cX6_tellLetter 137 = .ok (.invokevirtual 71, 3) := by decide +kernel
theorem dX6_tellLetter_140 : decode cX6_tellLetter 140 = .ok (.ireturn, 1) := by decide +kernel
theorem dX6_tellLetter_141 : decode cX6_tellLetter 141 = .ok (.aload_n 3, 1) := by decide +kernel
theorem dX6_tellLetter_142 : decode cX6_tellLetter 142 = .ok (.getfield 235, 3) := by decide +kernel
theorem dX6_tellLetter_145 : decode cX6_tellLetter 145 = .ok (.iload_n 1, 1) := by decide +kernel
theorem dX6_tellLetter_146 : decode cX6_tellLetter 146 = .ok (.invokevirtual 71, 3) := by decide +kernel
theorem dX6_tellLetter_149 : decode cX6_tellLetter 149 = .ok (.ireturn, 1) := by decide +kernel
theorem dX6_tellLetter_150 : decode cX6_tellLetter 150 = .ok (.aload_n 3, 1) := by decide +kernel
theorem dX6_tellLetter_151 : decode cX6_tellLetter 151 = .ok (.getfield 230, 3) := by decide +kernel
theorem dX6_tellLetter_154 : decode cX6_tellLetter 154 = .ok (.iload_n 1, 1) := by decide +kernel
theorem dX6_tellLetter_155 : decode cX6_tellLetter 155 = .ok (.invokevirtual 71, 3) := by decide +kernel
theorem dX6_tellLetter_158 : decode cX6_tellLetter 158 = .ok (.ireturn, 1) := by decide +kernel
theorem dX6_tellLetter_159 : decode cX6_tellLetter 159 = .ok (.aload_n 3, 1) := by decide +kernel
theorem dX6_tellLetter_160 : decode cX6_tellLetter 160 = .ok (.getfield 178, 3) := by decide +kernel
theorem dX6_tellLetter_163 : decode cX6_tellLetter 163 = .ok (.iload_n 1, 1) := by decide +kernel
theorem dX6_tellLetter_164 : decode cX6_tellLetter 164 = .ok (.invokevirtual 71, 3) := by decide +kernel
theorem dX6_tellLetter_167 : decode cX6_tellLetter 167 = .ok (.invokestatic 76, 3) := by decide +kernel
theorem dX6_tellLetter_170 : decode cX6_tellLetter 170 = .ok (.ireturn, 1) := by decide +kernel
set_option maxRecDepth 20000 in
theorem ggX6_tellCount_X1_inState : GoodIn wsX6_tellCount wsX1_inState := goodIn_r _ [7, 8, 9, 10, 11, 12, 13, 14, 15, 40, 41, 42, 43, 44, 45, 46, 47, 48, 49, 50, 51, 52] (by decide +kernel) (by decide +kernel)
set_option maxRecDepth 20000 in
theorem gX6_tellCount_X1_inState : GoodIn wsX6_tellCount (wsV RX6 295 RX1 yX1_inState wsX1_inState) := goodIn_app (goodIn_of _ (by decide +kernel)) ggX6_tellCount_X1_inState
theorem dX6_tellCount_0 : decode cX6_tellCount 0 = .ok (.iload_n 1, 1) := by decide +kernel
theorem dX6_tellCount_1 : decode cX6_tellCount 1 = .ok (.tableswitch 145 0 8 #[51, 59, 67, 75, 86, 97, 109, 121, 133], 51) := by decide +kernel
theorem dX6_tellCount_52 : decode cX6_tellCount 52 = .ok (.aload_n 0, 1) := by decide +kernel
theorem dX6_tellCount_53 : decode cX6_tellCount 53 = .ok (.getfield 21, 3) := by decide +kernel
theorem dX6_tellCount_56 : decode cX6_tellCount 56 = .ok (.getfield 155, 3) := by decide +kernel
theorem dX6_tellCount_59 : decode cX6_tellCount 59 = .ok (.ireturn, 1) := by decide +kernel
theorem dX6_tellCount_60 : decode cX6_tellCount 60 = .ok (.aload_n 0, 1) := by decide +kernel
theorem dX6_tellCount_61 : decode cX6_tellCount 61 = .ok (.getfield 10, 3) := by decide +kernel
theorem dX6_tellCount_64 : decode cX6_tellCount 64 = .ok (.getfield 39, 3) := by decide +kernel
theorem dX6_tellCount_67 : decode cX6_tellCount 67 = .ok (.ireturn, 1) := by decide +kernel
theorem dX6_tellCount_68 : decode cX6_tellCount 68 = .ok (.aload_n 0, 1) := by decide +kernel
theorem dX6_tellCount_69 : decode cX6_tellCount 69 = .ok (.getfield 10, 3) := by decide +kernel
theorem dX6_tellCount_72 : decode cX6_tellCount 72 = .ok (.getfield 93, 3) := by decide +kernel
theorem dX6_tellCount_75 : decode cX6_tellCount 75 = .ok (.ireturn, 1) := by decide +kernel
theorem dX6_tellCount_76 : decode cX6_tellCount 76 = .ok (.aload_n 0, 1) := by decide +kernel
theorem dX6_tellCount_77 : decode cX6_tellCount 77 = .ok (.getfield 21, 3) := by decide +kernel
theorem dX6_tellCount_80 : decode cX6_tellCount 80 = .ok (.getfield 109, 3) := by decide +kernel
theorem dX6_tellCount_83 : decode cX6_tellCount 83 = .ok (.getfield 113, 3) := by decide +kernel
theorem dX6_tellCount_86 : decode cX6_tellCount 86 = .ok (.ireturn, 1) := by decide +kernel
theorem dX6_tellCount_87 : decode cX6_tellCount 87 = .ok (.aload_n 0, 1) := by decide +kernel
theorem dX6_tellCount_88 : decode cX6_tellCount 88 = .ok (.getfield 21, 3) := by decide +kernel
theorem dX6_tellCount_91 : decode cX6_tellCount 91 = .ok (.getfield 146, 3) := by decide +kernel
theorem dX6_tellCount_94 : decode cX6_tellCount 94 = .ok (.getfield 150, 3) := by decide +kernel
theorem dX6_tellCount_97 : decode cX6_tellCount 97 = .ok (.ireturn, 1) := by decide +kernel
theorem dX6_tellCount_98 : decode cX6_tellCount 98 = .ok (.aload_n 0, 1) := by decide +kernel
theorem dX6_tellCount_99 : decode cX6_tellCount 99 = .ok (.getfield 21, 3) := by decide +kernel
theorem dX6_tellCount_102 : decode cX6_tellCount 102 = .ok (.getfield 146, 3) := by decide +kernel
theorem dX6_tellCount_105 : decode cX6_tellCount 105 = .ok (.iconst 0, 1) := by decide +kernel
theorem dX6_tellCount_106 : decode cX6_tellCount 106 = .ok (.invokevirtual 295, 3) := by decide +kernel
theorem dX6_tellCount_109 : decode cX6_tellCount 109 = .ok (.ireturn, 1) := by decide +kernel
theorem dX6_tellCount_110 : decode cX6_tellCount 110 = .ok (.aload_n 0, 1) := by decide +kernel
theorem dX6_tellCount_111 : decode cX6_tellCount 111 = .ok (.getfield 21, 3) := by decide +kernel
theorem dX6_tellCount_114 : decode cX6_tellCount 114 = .ok (.getfield 146, 3) := by decide +kernel
theorem dX6_tellCount_117 : decode cX6_tellCount 117 = .ok (.iconst 1, 1) := by decide +kernel
theorem dX6_tellCount_118 : decode cX6_tellCount 118 = .ok (.invokevirtual 295, 3) := by decide +kernel
theorem dX6_tellCount_121 : decode cX6_tellCount 121 = .ok (.ireturn, 1) := by decide +kernel
theorem dX6_tellCount_122 : decode cX6_tellCount 122 = .ok (.aload_n 0, 1) := by decide +kernel
theorem dX6_tellCount_123 : decode cX6_tellCount 123 = .ok (.getfield 21, 3) := by decide +kernel
theorem dX6_tellCount_126 : decode cX6_tellCount 126 = .ok (.getfield 146, 3) := by decide +kernel
theorem dX6_tellCount_129 : decode cX6_tellCount 129 = .ok (.iconst 2, 1) := by decide +kernel
theorem dX6_tellCount_130 : decode cX6_tellCount 130 = .ok (.invokevirtual 295, 3) := by decide +kernel
theorem dX6_tellCount_133 : decode cX6_tellCount 133 = .ok (.ireturn, 1) := by decide +kernel
theorem dX6_tellCount_134 : decode cX6_tellCount 134 = .ok (.aload_n 0, 1) := by decide +kernel
theorem dX6_tellCount_135 : decode cX6_tellCount 135 = .ok (.getfield 21, 3) := by decide +kernel
theorem dX6_tellCount_138 : decode cX6_tellCount 138 = .ok (.getfield 146, 3) := by decide +kernel
theorem dX6_tellCount_141 : decode cX6_tellCount 141 = .ok (.iconst 3, 1) := by decide +kernel
theorem dX6_tellCount_142 : decode cX6_tellCount 142 = .ok (.invokevirtual 295, 3) := by decide +kernel
theorem dX6_tellCount_145 : decode cX6_tellCount 145 = .ok (.ireturn, 1) := by decide +kernel
theorem dX6_tellCount_146 : decode cX6_tellCount 146 = .ok (.aload_n 0, 1) := by decide +kernel
theorem dX6_tellCount_147 : decode cX6_tellCount 147 = .ok (.getfield 21, 3) := by decide +kernel
theorem dX6_tellCount_150 : decode cX6_tellCount 150 = .ok (.getfield 298, 3) := by decide +kernel
theorem dX6_tellCount_153 : decode cX6_tellCount 153 = .ok (.ireturn, 1) := by decide +kernel
theorem dX6_has_0 : decode cX6_has 0 = .ok (.iload_n 0, 1) := by decide +kernel
theorem dX6_has_1 : decode cX6_has 1 = .ok (.iload_n 1, 1) := by decide +kernel
theorem dX6_has_2 : decode cX6_has 2 = .ok (.ishr, 1) := by decide +kernel
theorem dX6_has_3 : decode cX6_has 3 = .ok (.iconst 1, 1) := by decide +kernel
theorem dX6_has_4 : decode cX6_has 4 = .ok (.iand, 1) := by decide +kernel
theorem dX6_has_5 : decode cX6_has 5 = .ok (.iconst 1, 1) := by decide +kernel
theorem dX6_has_6 : decode cX6_has 6 = .ok (.if_icmp .ne 7, 3) := by decide +kernel
theorem dX6_has_9 : decode cX6_has 9 = .ok (.iconst 1, 1) := by decide +kernel
theorem dX6_has_10 : decode cX6_has 10 = .ok (.goto 4, 3) := by decide +kernel
theorem dX6_has_13 : decode cX6_has 13 = .ok (.iconst 0, 1) := by decide +kernel
theorem dX6_has_14 : decode cX6_has 14 = .ok (.ireturn, 1) := by decide +kernel
theorem dX6_with_0 : decode cX6_with 0 = .ok (.iload_n 0, 1) := by decide +kernel
theorem dX6_with_1 : decode cX6_with 1 = .ok (.iconst 1, 1) := by decide +kernel
theorem dX6_with_2 : decode cX6_with 2 = .ok (.iload_n 1, 1) := by decide +kernel
theorem dX6_with_3 : decode cX6_with 3 = .ok (.ishl, 1) := by decide +kernel
theorem dX6_with_4 : decode cX6_with 4 = .ok (.ior, 1) := by decide +kernel
theorem dX6_with_5 : decode cX6_with 5 = .ok (.ireturn, 1) := by decide +kernel
theorem dX6_without_0 : decode cX6_without 0 = .ok (.iload_n 0, 1) := by decide +kernel
theorem dX6_without_1 : decode cX6_without 1 = .ok (.iconst 1, 1) := by decide +kernel
theorem dX6_without_2 : decode cX6_without 2 = .ok (.iload_n 1, 1) := by decide +kernel
theorem dX6_without_3 : decode cX6_without 3 = .ok (.ishl, 1) := by decide +kernel
theorem dX6_without_4 : decode cX6_without 4 = .ok (.iconst (-1), 1) := by decide +kernel
theorem dX6_without_5 : decode cX6_without 5 = .ok (.ixor, 1) := by decide +kernel
theorem dX6_without_6 : decode cX6_without 6 = .ok (.iand, 1) := by decide +kernel
theorem dX6_without_7 : decode cX6_without 7 = .ok (.ireturn, 1) := by decide +kernel
theorem dX7_init_0 : decode cX7_init 0 = .ok (.aload_n 0, 1) := by decide +kernel
theorem dX7_init_1 : decode cX7_init 1 = .ok (.invokespecial 1, 3) := by decide +kernel
theorem dX7_init_4 : decode cX7_init 4 = .ok (.aload_n 0, 1) := by decide +kernel
theorem dX7_init_5 : decode cX7_init 5 = .ok (.bipush 10, 2) := by decide +kernel
theorem dX7_init_7 : decode cX7_init 7 = .ok (.newarray .int, 2) := by decide +kernel
theorem dX7_init_9 : decode cX7_init 9 = .ok (.putfield 9, 3) := by decide +kernel
theorem dX7_init_12 : decode cX7_init 12 = .ok (.aload_n 0, 1) := by decide +kernel
theorem dX7_init_13 : decode cX7_init 13 = .ok (.bipush 10, 2) := by decide +kernel
theorem dX7_init_15 : decode cX7_init 15 = .ok (.newarray .int, 2) := by decide +kernel
theorem dX7_init_17 : decode cX7_init 17 = .ok (.putfield 13, 3) := by decide +kernel
theorem dX7_init_20 : decode cX7_init 20 = .ok (.aload_n 0, 1) := by decide +kernel
theorem dX7_init_21 : decode cX7_init 21 = .ok (.bipush 45, 2) := by decide +kernel
theorem dX7_init_23 : decode cX7_init 23 = .ok (.newarray .int, 2) := by decide +kernel
theorem dX7_init_25 : decode cX7_init 25 = .ok (.putfield 16, 3) := by decide +kernel
theorem dX7_init_28 : decode cX7_init 28 = .ok (.aload_n 0, 1) := by decide +kernel
theorem dX7_init_29 : decode cX7_init 29 = .ok (.bipush 60, 2) := by decide +kernel
theorem dX7_init_31 : decode cX7_init 31 = .ok (.newarray .int, 2) := by decide +kernel
theorem dX7_init_33 : decode cX7_init 33 = .ok (.putfield 19, 3) := by decide +kernel
theorem dX7_init_36 : decode cX7_init 36 = .ok (.aload_n 0, 1) := by decide +kernel
theorem dX7_init_37 : decode cX7_init 37 = .ok (.sipush 660, 3) := by decide +kernel
theorem dX7_init_40 : decode cX7_init 40 = .ok (.newarray .int, 2) := by decide +kernel
theorem dX7_init_42 : decode cX7_init 42 = .ok (.putfield 22, 3) := by decide +kernel
theorem dX7_init_45 : decode cX7_init 45 = .ok (.aload_n 0, 1) := by decide +kernel
theorem dX7_init_46 : decode cX7_init 46 = .ok (.iconst 2, 1) := by decide +kernel
theorem dX7_init_47 : decode cX7_init 47 = .ok (.newarray .int, 2) := by decide +kernel
theorem dX7_init_49 : decode cX7_init 49 = .ok (.putfield 25, 3) := by decide +kernel
theorem dX7_init_52 : decode cX7_init 52 = .ok (.aload_n 0, 1) := by decide +kernel
theorem dX7_init_53 : decode cX7_init 53 = .ok (.bipush 100, 2) := by decide +kernel
theorem dX7_init_55 : decode cX7_init 55 = .ok (.newarray .int, 2) := by decide +kernel
theorem dX7_init_57 : decode cX7_init 57 = .ok (.putfield 28, 3) := by decide +kernel
theorem dX7_init_60 : decode cX7_init 60 = .ok (.aload_n 0, 1) := by decide +kernel
theorem dX7_init_61 : decode cX7_init 61 = .ok (.bipush 100, 2) := by decide +kernel
theorem dX7_init_63 : decode cX7_init 63 = .ok (.newarray .int, 2) := by decide +kernel
theorem dX7_init_65 : decode cX7_init 65 = .ok (.putfield 31, 3) := by decide +kernel
theorem dX7_init_68 : decode cX7_init 68 = .ok (.return_, 1) := by decide +kernel
theorem dX7_thrown_0 : decode cX7_thrown 0 = .ok (.aload_n 0, 1) := by decide +kernel
theorem dX7_thrown_1 : decode cX7_thrown 1 = .ok (.getfield 34, 3) := by decide +kernel
theorem dX7_thrown_4 : decode cX7_thrown 4 = .ok (.ireturn, 1) := by decide +kernel
theorem dX7_fail_0 : decode cX7_fail 0 = .ok (.aload_n 0, 1) := by decide +kernel
theorem dX7_fail_1 : decode cX7_fail 1 = .ok (.iload_n 1, 1) := by decide +kernel
theorem dX7_fail_2 : decode cX7_fail 2 = .ok (.putfield 34, 3) := by decide +kernel
theorem dX7_fail_5 : decode cX7_fail 5 = .ok (.iconst 0, 1) := by decide +kernel
theorem dX7_fail_6 : decode cX7_fail 6 = .ok (.ireturn, 1) := by decide +kernel
theorem dX7_isIn_0 : decode cX7_isIn 0 = .ok (.iload_n 0, 1) := by decide +kernel
theorem dX7_isIn_1 : decode cX7_isIn 1 = .ok (.iload_n 1, 1) := by decide +kernel
theorem dX7_isIn_2 : decode cX7_isIn 2 = .ok (.if_icmp .lt 12, 3) := by decide +kernel
theorem dX7_isIn_5 : decode cX7_isIn 5 = .ok (.iload_n 0, 1) := by decide +kernel
theorem dX7_isIn_6 : decode cX7_isIn 6 = .ok (.iload_n 2, 1) := by decide +kernel
theorem dX7_isIn_7 : decode cX7_isIn 7 = .ok (.if_icmp .gt 7, 3) := by decide +kernel
theorem dX7_isIn_10 : decode cX7_isIn 10 = .ok (.iconst 1, 1) := by decide +kernel
theorem dX7_isIn_11 : decode cX7_isIn 11 = .ok (.goto 4, 3) := by decide +kernel
theorem dX7_isIn_14 : decode cX7_isIn 14 = .ok (.iconst 0, 1) := by decide +kernel
theorem dX7_isIn_15 : decode cX7_isIn 15 = .ok (.ireturn, 1) := by decide +kernel
set_option maxRecDepth 20000 in
theorem ggX7_isStation_X7_isIn : GoodIn wsX7_isStation wsX7_isIn := goodIn_r _ [5] (by decide +kernel) (by decide +kernel)
set_option maxRecDepth 20000 in
theorem gX7_isStation_X7_isIn : GoodIn wsX7_isStation (va_wsS RX7 41 yX7_isIn wsX7_isIn) := goodIn_app (goodIn_of _ (by decide +kernel)) ggX7_isStation_X7_isIn
theorem dX7_isStation_0 : decode cX7_isStation 0 = .ok (.iload_n 1, 1) := by decide +kernel
theorem dX7_isStation_1 : decode cX7_isStation 1 = .ok (.iconst 0, 1) := by decide +kernel
theorem dX7_isStation_2 : decode cX7_isStation 2 = .ok (.aload_n 0, 1) := by decide +kernel
theorem dX7_isStation_3 : decode cX7_isStation 3 = .ok (.getfield 38, 3) := by decide +kernel
theorem dX7_isStation_6 : decode cX7_isStation 6 = .ok (.iconst 1, 1) := by decide +kernel
theorem dX7_isStation_7 : decode cX7_isStation 7 = .ok (.isub, 1) := by decide +kernel
theorem dX7_isStation_8 : decode cX7_isStation 8 = .ok (.invokestatic 41, 3) := by decide +kernel
theorem dX7_isStation_11 : decode cX7_isStation 11 = .ok (.ireturn, 1) := by decide +kernel
set_option maxRecDepth 20000 in
theorem ggX7_isRoad_X7_isIn : GoodIn wsX7_isRoad wsX7_isIn := goodIn_r _ [5] (by decide +kernel) (by decide +kernel)
set_option maxRecDepth 20000 in
theorem gX7_isRoad_X7_isIn : GoodIn wsX7_isRoad (va_wsS RX7 41 yX7_isIn wsX7_isIn) := goodIn_app (goodIn_of _ (by decide +kernel)) ggX7_isRoad_X7_isIn
theorem dX7_isRoad_0 : decode cX7_isRoad 0 = .ok (.iload_n 1, 1) := by decide +kernel
theorem dX7_isRoad_1 : decode cX7_isRoad 1 = .ok (.iconst 0, 1) := by decide +kernel
theorem dX7_isRoad_2 : decode cX7_isRoad 2 = .ok (.aload_n 0, 1) := by decide +kernel
theorem dX7_isRoad_3 : decode cX7_isRoad 3 = .ok (.getfield 45, 3) := by decide +kernel
theorem dX7_isRoad_6 : decode cX7_isRoad 6 = .ok (.iconst 1, 1) := by decide +kernel
theorem dX7_isRoad_7 : decode cX7_isRoad 7 = .ok (.isub, 1) := by decide +kernel
theorem dX7_isRoad_8 : decode cX7_isRoad 8 = .ok (.invokestatic 41, 3) := by decide +kernel
theorem dX7_isRoad_11 : decode cX7_isRoad 11 = .ok (.ireturn, 1) := by decide +kernel
set_option maxRecDepth 20000 in
theorem ggX7_isLetter_X7_isIn : GoodIn wsX7_isLetter wsX7_isIn := goodIn_r _ [5] (by decide +kernel) (by decide +kernel)
set_option maxRecDepth 20000 in
theorem gX7_isLetter_X7_isIn : GoodIn wsX7_isLetter (va_wsS RX7 41 yX7_isIn wsX7_isIn) := goodIn_app (goodIn_of _ (by decide +kernel)) ggX7_isLetter_X7_isIn
theorem dX7_isLetter_0 : decode cX7_isLetter 0 = .ok (.iload_n 1, 1) := by decide +kernel
theorem dX7_isLetter_1 : decode cX7_isLetter 1 = .ok (.iconst 0, 1) := by decide +kernel
theorem dX7_isLetter_2 : decode cX7_isLetter 2 = .ok (.aload_n 0, 1) := by decide +kernel
theorem dX7_isLetter_3 : decode cX7_isLetter 3 = .ok (.getfield 48, 3) := by decide +kernel
theorem dX7_isLetter_6 : decode cX7_isLetter 6 = .ok (.iconst 1, 1) := by decide +kernel
theorem dX7_isLetter_7 : decode cX7_isLetter 7 = .ok (.isub, 1) := by decide +kernel
theorem dX7_isLetter_8 : decode cX7_isLetter 8 = .ok (.invokestatic 41, 3) := by decide +kernel
theorem dX7_isLetter_11 : decode cX7_isLetter 11 = .ok (.ireturn, 1) := by decide +kernel
theorem dX7_ro_0 : decode cX7_ro 0 = .ok (.aload_n 0, 1) := by decide +kernel
theorem dX7_ro_1 : decode cX7_ro 1 = .ok (.getfield 16, 3) := by decide +kernel
theorem dX7_ro_4 : decode cX7_ro 4 = .ok (.iconst 3, 1) := by decide +kernel
theorem dX7_ro_5 : decode cX7_ro 5 = .ok (.iload_n 1, 1) := by decide +kernel
theorem dX7_ro_6 : decode cX7_ro 6 = .ok (.imul, 1) := by decide +kernel
theorem dX7_ro_7 : decode cX7_ro 7 = .ok (.iload_n 2, 1) := by decide +kernel
theorem dX7_ro_8 : decode cX7_ro 8 = .ok (.iadd, 1) := by decide +kernel
theorem dX7_ro_9 : decode cX7_ro 9 = .ok (.iaload, 1) := by decide +kernel
theorem dX7_ro_10 : decode cX7_ro 10 = .ok (.ireturn, 1) := by decide +kernel
theorem dX7_mu_0 : decode cX7_mu 0 = .ok (.aload_n 0, 1) := by decide +kernel
theorem dX7_mu_1 : decode cX7_mu 1 = .ok (.getfield 19, 3) := by decide +kernel
theorem dX7_mu_4 : decode cX7_mu 4 = .ok (.iconst 5, 1) := by decide +kernel
theorem dX7_mu_5 : decode cX7_mu 5 = .ok (.iload_n 1, 1) := by decide +kernel
theorem dX7_mu_6 : decode cX7_mu 6 = .ok (.imul, 1) := by decide +kernel
theorem dX7_mu_7 : decode cX7_mu 7 = .ok (.iload_n 2, 1) := by decide +kernel
theorem dX7_mu_8 : decode cX7_mu 8 = .ok (.iadd, 1) := by decide +kernel
theorem dX7_mu_9 : decode cX7_mu 9 = .ok (.iaload, 1) := by decide +kernel
theorem dX7_mu_10 : decode cX7_mu 10 = .ok (.ireturn, 1) := by decide +kernel
theorem dX7_setMu_0 : decode cX7_setMu 0 = .ok (.aload_n 0, 1) := by decide +kernel
theorem dX7_setMu_1 : decode cX7_setMu 1 = .ok (.getfield 19, 3) := by decide +kernel
theorem dX7_setMu_4 : decode cX7_setMu 4 = .ok (.iconst 5, 1) := by decide +kernel
theorem dX7_setMu_5 : decode cX7_setMu 5 = .ok (.iload_n 1, 1) := by decide +kernel
theorem dX7_setMu_6 : decode cX7_setMu 6 = .ok (.imul, 1) := by decide +kernel
theorem dX7_setMu_7 : decode cX7_setMu 7 = .ok (.iload_n 2, 1) := by decide +kernel
theorem dX7_setMu_8 : decode cX7_setMu 8 = .ok (.iadd, 1) := by decide +kernel
theorem dX7_setMu_9 : decode cX7_setMu 9 = .ok (.iload_n 3, 1) := by decide +kernel
theorem dX7_setMu_10 : decode cX7_setMu 10 = .ok (.iastore, 1) := by decide +kernel
theorem dX7_setMu_11 : decode cX7_setMu 11 = .ok (.return_, 1) := by decide +kernel
theorem dX7_le_0 : decode cX7_le 0 = .ok (.aload_n 0, 1) := by decide +kernel
theorem dX7_le_1 : decode cX7_le 1 = .ok (.getfield 22, 3) := by decide +kernel
theorem dX7_le_4 : decode cX7_le 4 = .ok (.bipush 11, 2) := by decide +kernel
theorem dX7_le_6 : decode cX7_le 6 = .ok (.iload_n 1, 1) := by decide +kernel
theorem dX7_le_7 : decode cX7_le 7 = .ok (.imul, 1) := by decide +kernel
theorem dX7_le_8 : decode cX7_le 8 = .ok (.iload_n 2, 1) := by decide +kernel
theorem dX7_le_9 : decode cX7_le 9 = .ok (.iadd, 1) := by decide +kernel
theorem dX7_le_10 : decode cX7_le 10 = .ok (.iaload, 1) := by decide +kernel
theorem dX7_le_11 : decode cX7_le 11 = .ok (.ireturn, 1) := by decide +kernel
theorem dX7_setLe_0 : decode cX7_setLe 0 = .ok (.aload_n 0, 1) := by decide +kernel
theorem dX7_setLe_1 : decode cX7_setLe 1 = .ok (.getfield 22, 3) := by decide +kernel
theorem dX7_setLe_4 : decode cX7_setLe 4 = .ok (.bipush 11, 2) := by decide +kernel
theorem dX7_setLe_6 : decode cX7_setLe 6 = .ok (.iload_n 1, 1) := by decide +kernel
theorem dX7_setLe_7 : decode cX7_setLe 7 = .ok (.imul, 1) := by decide +kernel
theorem dX7_setLe_8 : decode cX7_setLe 8 = .ok (.iload_n 2, 1) := by decide +kernel
theorem dX7_setLe_9 : decode cX7_setLe 9 = .ok (.iadd, 1) := by decide +kernel
theorem dX7_setLe_10 : decode cX7_setLe 10 = .ok (.iload_n 3, 1) := by decide +kernel
theorem dX7_setLe_11 : decode cX7_setLe 11 = .ok (.iastore, 1) := by decide +kernel
theorem dX7_setLe_12 : decode cX7_setLe 12 = .ok (.return_, 1) := by decide +kernel
theorem dX7_has_0 : decode cX7_has 0 = .ok (.iload_n 0, 1) := by decide +kernel
theorem dX7_has_1 : decode cX7_has 1 = .ok (.iload_n 1, 1) := by decide +kernel
theorem dX7_has_2 : decode cX7_has 2 = .ok (.ishr, 1) := by decide +kernel
theorem dX7_has_3 : decode cX7_has 3 = .ok (.iconst 1, 1) := by decide +kernel
theorem dX7_has_4 : decode cX7_has 4 = .ok (.iand, 1) := by decide +kernel
theorem dX7_has_5 : decode cX7_has 5 = .ok (.iconst 1, 1) := by decide +kernel
theorem dX7_has_6 : decode cX7_has 6 = .ok (.if_icmp .ne 7, 3) := by decide +kernel
theorem dX7_has_9 : decode cX7_has 9 = .ok (.iconst 1, 1) := by decide +kernel
theorem dX7_has_10 : decode cX7_has 10 = .ok (.goto 4, 3) := by decide +kernel
theorem dX7_has_13 : decode cX7_has 13 = .ok (.iconst 0, 1) := by decide +kernel
theorem dX7_has_14 : decode cX7_has 14 = .ok (.ireturn, 1) := by decide +kernel
set_option maxRecDepth 20000 in
theorem ggX7_addStation_X7_isIn : GoodIn wsX7_addStation wsX7_isIn := goodIn_r _ [7] (by decide +kernel) (by decide +kernel)
set_option maxRecDepth 20000 in
theorem gX7_addStation_X7_isIn : GoodIn wsX7_addStation (va_wsS RX7 41 yX7_isIn wsX7_isIn) := goodIn_app (goodIn_of _ (by decide +kernel)) ggX7_addStation_X7_isIn
set_option maxRecDepth 20000 in
theorem ggX7_addStation_X7_fail : GoodIn wsX7_addStation wsX7_fail := goodIn_r _ [11, 1, 12, 13, 14, 15, 16, 17, 18, 19, 20, 21, 22, 23, 24, 25] (by decide +kernel) (by decide +kernel)
set_option maxRecDepth 20000 in
theorem gX7_addStation_X7_fail : GoodIn wsX7_addStation (wsV RX7 51 RX7 yX7_fail wsX7_fail) := goodIn_app (goodIn_of _ (by decide +kernel)) ggX7_addStation_X7_fail
theorem dX7_addStation_0 : decode cX7_addStation 0 = .ok (.aload_n 0, 1) := by decide +kernel
theorem dX7_addStation_1 : decode cX7_addStation 1 = .ok (.iconst 0, 1) := by decide +kernel
theorem dX7_addStation_2 : decode cX7_addStation 2 = .ok (.putfield 34, 3) := by decide +kernel
theorem dX7_addStation_5 : decode cX7_addStation 5 = .ok (.iload_n 1, 1) := by decide +kernel
theorem dX7_addStation_6 : decode cX7_addStation 6 = .ok (.iconst 0, 1) := by decide +kernel
theorem dX7_addStation_7 : decode cX7_addStation 7 = .ok (.sipush 4000, 3) := by decide +kernel
theorem dX7_addStation_10 : decode cX7_addStation 10 = .ok (.invokestatic 41, 3) := by decide +kernel
theorem dX7_addStation_13 : decode cX7_addStation 13 = .ok (.ifCond .ne 9, 3) := by decide +kernel
theorem dX7_addStation_16 : decode cX7_addStation 16 = .ok (.aload_n 0, 1) := by decide +kernel
theorem dX7_addStation_17 : decode cX7_addStation 17 = .ok (.iconst 1, 1) := by decide +kernel
theorem dX7_addStation_18 : decode cX7_addStation 18 = .ok (.invokevirtual 51, 3) := by decide +kernel
theorem dX7_addStation_21 : decode cX7_addStation 21 = .ok (.ireturn, 1) := by decide +kernel
theorem dX7_addStation_22 : decode cX7_addStation 22 = .ok (.aload_n 0, 1) := by decide +kernel
theorem dX7_addStation_23 : decode cX7_addStation 23 = .ok (.getfield 38, 3) := by decide +kernel
theorem dX7_addStation_26 : decode cX7_addStation 26 = .ok (.bipush 10, 2) := by decide +kernel
theorem dX7_addStation_28 : decode cX7_addStation 28 = .ok (.if_icmp .ne 9, 3) := by decide +kernel
theorem dX7_addStation_31 : decode cX7_addStation 31 = .ok (.aload_n 0, 1) := by decide +kernel
theorem dX7_addStation_32 : decode cX7_addStation 32 = .ok (.iconst 2, 1) := by decide +kernel
theorem dX7_addStation_33 : decode cX7_addStation 33 = .ok (.invokevirtual 51, 3) := by decide +kernel
theorem dX7_addStation_36 : decode cX7_addStation 36 = .ok (.ireturn, 1) := by decide +kernel
theorem dX7_addStation_37 : decode cX7_addStation 37 = .ok (.aload_n 0, 1) := by decide +kernel
theorem dX7_addStation_38 : decode cX7_addStation 38 = .ok (.getfield 9, 3) := by decide +kernel
theorem dX7_addStation_41 : decode cX7_addStation 41 = .ok (.aload_n 0, 1) := by decide +kernel
theorem dX7_addStation_42 : decode cX7_addStation 42 = .ok (.getfield 38, 3) := by decide +kernel
theorem dX7_addStation_45 : decode cX7_addStation 45 = .ok (.iload_n 1, 1) := by decide +kernel
theorem dX7_addStation_46 : decode cX7_addStation 46 = .ok (.iastore, 1) := by decide +kernel
theorem dX7_addStation_47 : decode cX7_addStation 47 = .ok (.aload_n 0, 1) := by decide +kernel
theorem dX7_addStation_48 : decode cX7_addStation 48 = .ok (.dup, 1) := by decide +kernel
theorem dX7_addStation_49 : decode cX7_addStation 49 = .ok (.getfield 38, 3) := by decide +kernel
theorem dX7_addStation_52 : decode cX7_addStation 52 = .ok (.iconst 1, 1) := by decide +kernel
theorem dX7_addStation_53 : decode cX7_addStation 53 = .ok (.iadd, 1) := by decide +kernel
theorem dX7_addStation_54 : decode cX7_addStation 54 = .ok (.putfield 38, 3) := by decide +kernel
theorem dX7_addStation_57 : decode cX7_addStation 57 = .ok (.aload_n 0, 1) := by decide +kernel
theorem dX7_addStation_58 : decode cX7_addStation 58 = .ok (.getfield 38, 3) := by decide +kernel
theorem dX7_addStation_61 : decode cX7_addStation 61 = .ok (.iconst 1, 1) := by decide +kernel
theorem dX7_addStation_62 : decode cX7_addStation 62 = .ok (.isub, 1) := by decide +kernel
theorem dX7_addStation_63 : decode cX7_addStation 63 = .ok (.ireturn, 1) := by decide +kernel
set_option maxRecDepth 20000 in
theorem ggX7_setSight_X7_isStation : GoodIn wsX7_setSight wsX7_isStation := goodIn_r _ [7, 8, 9, 10, 6, 11, 23, 24, 25, 26, 27, 28, 29, 30, 31, 32, 33, 34, 35, 36] (by decide +kernel) (by decide +kernel)
set_option maxRecDepth 20000 in
theorem gX7_setSight_X7_isStation : GoodIn wsX7_setSight (wsV RX7 55 RX7 yX7_isStation wsX7_isStation) := goodIn_app (goodIn_of _ (by decide +kernel)) ggX7_setSight_X7_isStation
set_option maxRecDepth 20000 in
theorem ggX7_setSight_X7_fail : GoodIn wsX7_setSight wsX7_fail := goodIn_r _ [15, 1, 23, 24, 25, 26, 27, 28, 29, 30, 31, 32, 33, 34, 35, 36] (by decide +kernel) (by decide +kernel)
set_option maxRecDepth 20000 in
theorem gX7_setSight_X7_fail : GoodIn wsX7_setSight (wsV RX7 51 RX7 yX7_fail wsX7_fail) := goodIn_app (goodIn_of _ (by decide +kernel)) ggX7_setSight_X7_fail
set_option maxRecDepth 20000 in
theorem ggX7_setSight_J6_bitCount_0f7a4 : GoodIn wsX7_setSight wsJ6_bitCount_0f7a4 := goodIn_r _ [19, 20, 21, 22] (by decide +kernel) (by decide +kernel)
set_option maxRecDepth 20000 in
theorem gX7_setSight_J6_bitCount_0f7a4 : GoodIn wsX7_setSight (va_wsS RX7 59 yJ6_bitCount_0f7a4 wsJ6_bitCount_0f7a4) := goodIn_app (goodIn_of _ (by decide +kernel)) ggX7_setSight_J6_bitCount_0f7a4
theorem dX7_setSight_0 : decode cX7_setSight 0 = .ok (.aload_n 0, 1) := by decide +kernel
theorem dX7_setSight_1 : decode cX7_setSight 1 = .ok (.iconst 0, 1) := by decide +kernel
theorem dX7_setSight_2 : decode cX7_setSight 2 = .ok (.putfield 34, 3) := by decide +kernel
theorem dX7_setSight_5 : decode cX7_setSight 5 = .ok (.aload_n 0, 1) := by decide +kernel
theorem dX7_setSight_6 : decode cX7_setSight 6 = .ok (.iload_n 1, 1) := by decide +kernel
theorem dX7_setSight_7 : decode cX7_setSight 7 = .ok (.invokevirtual 55, 3) := by decide +kernel
theorem dX7_setSight_10 : decode cX7_setSight 10 = .ok (.ifCond .eq 11, 3) := by decide +kernel
theorem dX7_setSight_13 : decode cX7_setSight 13 = .ok (.aload_n 0, 1) := by decide +kernel
theorem dX7_setSight_14 : decode cX7_setSight 14 = .ok (.iload_n 2, 1) := by decide +kernel
theorem dX7_setSight_15 : decode cX7_setSight 15 = .ok (.invokevirtual 55, 3) := by decide +kernel
theorem dX7_setSight_18 : decode cX7_setSight 18 = .ok (.ifCond .ne 9, 3) := by decide +kernel
theorem dX7_setSight_21 : decode cX7_setSight 21 = .ok (.aload_n 0, 1) := by decide +kernel
theorem dX7_setSight_22 : decode cX7_setSight 22 = .ok (.iconst 1, 1) := by decide +kernel
theorem dX7_setSight_23 : decode cX7_setSight 23 = .ok (.invokevirtual 51, 3) := by decide +kernel
theorem dX7_setSight_26 : decode cX7_setSight 26 = .ok (.ireturn, 1) := by decide +kernel
theorem dX7_setSight_27 : decode cX7_setSight 27 = .ok (.iload_n 1, 1) := by decide +kernel
theorem dX7_setSight_28 : decode cX7_setSight 28 = .ok (.iload_n 2, 1) := by decide +kernel
theorem dX7_setSight_29 : decode cX7_setSight 29 = .ok (.if_icmp .ne 9, 3) := by decide +kernel
theorem dX7_setSight_32 : decode cX7_setSight 32 = .ok (.aload_n 0, 1) := by decide +kernel
theorem dX7_setSight_33 : decode cX7_setSight 33 = .ok (.iconst 2, 1) := by decide +kernel
theorem dX7_setSight_34 : decode cX7_setSight 34 = .ok (.invokevirtual 51, 3) := by decide +kernel
theorem dX7_setSight_37 : decode cX7_setSight 37 = .ok (.ireturn, 1) := by decide +kernel
theorem dX7_setSight_38 : decode cX7_setSight 38 = .ok (.aload_n 0, 1) := by decide +kernel
theorem dX7_setSight_39 : decode cX7_setSight 39 = .ok (.getfield 13, 3) := by decide +kernel
theorem dX7_setSight_42 : decode cX7_setSight 42 = .ok (.iload_n 1, 1) := by decide +kernel
theorem dX7_setSight_43 : decode cX7_setSight 43 = .ok (.aload_n 0, 1) := by decide +kernel
theorem dX7_setSight_44 : decode cX7_setSight 44 = .ok (.getfield 13, 3) := by decide +kernel
theorem dX7_setSight_47 : decode cX7_setSight 47 = .ok (.iload_n 1, 1) := by decide +kernel
theorem dX7_setSight_48 : decode cX7_setSight 48 = .ok (.iaload, 1) := by decide +kernel
theorem dX7_setSight_49 : decode cX7_setSight 49 = .ok (.iconst 1, 1) := by decide +kernel
theorem dX7_setSight_50 : decode cX7_setSight 50 = .ok (.iload_n 2, 1) := by decide +kernel
theorem dX7_setSight_51 : decode cX7_setSight 51 = .ok (.ishl, 1) := by decide +kernel
theorem dX7_setSight_52 : decode cX7_setSight 52 = .ok (.iconst (-1), 1) := by decide +kernel
theorem dX7_setSight_53 : decode cX7_setSight 53 = .ok (.ixor, 1) := by decide +kernel
theorem dX7_setSight_54 : decode cX7_setSight 54 = .ok (.iand, 1) := by decide +kernel
theorem dX7_setSight_55 : decode cX7_setSight 55 = .ok (.iload_n 3, 1) := by decide +kernel
theorem dX7_setSight_56 : decode cX7_setSight 56 = .ok (.ifCond .eq 9, 3) := by decide +kernel
theorem dX7_setSight_59 : decode cX7_setSight 59 = .ok (.iconst 1, 1) := by decide +kernel
theorem dX7_setSight_60 : decode cX7_setSight 60 = .ok (.iload_n 2, 1) := by decide +kernel
theorem dX7_setSight_61 : decode cX7_setSight 61 = .ok (.ishl, 1) := by decide +kernel
theorem dX7_setSight_62 : decode cX7_setSight 62 = .ok (.goto 4, 3) := by decide +kernel
theorem dX7_setSight_65 : decode cX7_setSight 65 = .ok (.iconst 0, 1) := by decide +kernel
theorem dX7_setSight_66 : decode cX7_setSight 66 = .ok (.ior, 1) := by decide +kernel
theorem dX7_setSight_67 : decode cX7_setSight 67 = .ok (.iastore, 1) := by decide +kernel
theorem dX7_setSight_68 : decode cX7_setSight 68 = .ok (.aload_n 0, 1) := by decide +kernel
theorem dX7_setSight_69 : decode cX7_setSight 69 = .ok (.getfield 13, 3) := by decide +kernel
theorem dX7_setSight_72 : decode cX7_setSight 72 = .ok (.iload_n 2, 1) := by decide +kernel
theorem dX7_setSight_73 : decode cX7_setSight 73 = .ok (.aload_n 0, 1) := by decide +kernel
theorem dX7_setSight_74 : decode cX7_setSight 74 = .ok (.getfield 13, 3) := by decide +kernel
theorem dX7_setSight_77 : decode cX7_setSight 77 = .ok (.iload_n 2, 1) := by decide +kernel
theorem dX7_setSight_78 : decode cX7_setSight 78 = .ok (.iaload, 1) := by decide +kernel
theorem dX7_setSight_79 : decode cX7_setSight 79 = .ok (.iconst 1, 1) := by decide +kernel
theorem dX7_setSight_80 : decode cX7_setSight 80 = .ok (.iload_n 1, 1) := by decide +kernel
theorem dX7_setSight_81 : decode cX7_setSight 81 = .ok (.ishl, 1) := by decide +kernel
theorem dX7_setSight_82 : decode cX7_setSight 82 = .ok (.iconst (-1), 1) := by decide +kernel
theorem dX7_setSight_83 : decode cX7_setSight 83 = .ok (.ixor, 1) := by decide +kernel
theorem dX7_setSight_84 : decode cX7_setSight 84 = .ok (.iand, 1) := by decide +kernel
theorem dX7_setSight_85 : decode cX7_setSight 85 = .ok (.iload_n 3, 1) := by decide +kernel
theorem dX7_setSight_86 : decode cX7_setSight 86 = .ok (.ifCond .eq 9, 3) := by decide +kernel
theorem dX7_setSight_89 : decode cX7_setSight 89 = .ok (.iconst 1, 1) := by decide +kernel
theorem dX7_setSight_90 : decode cX7_setSight 90 = .ok (.iload_n 1, 1) := by decide +kernel
theorem dX7_setSight_91 : decode cX7_setSight 91 = .ok (.ishl, 1) := by decide +kernel
theorem dX7_setSight_92 : decode cX7_setSight 92 = .ok (.goto 4, 3) := by decide +kernel
theorem dX7_setSight_95 : decode cX7_setSight 95 = .ok (.iconst 0, 1) := by decide +kernel
theorem dX7_setSight_96 : decode cX7_setSight 96 = .ok (.ior, 1) := by decide +kernel
theorem dX7_setSight_97 : decode cX7_setSight 97 = .ok (.iastore, 1) := by decide +kernel
theorem dX7_setSight_98 : decode cX7_setSight 98 = .ok (.aload_n 0, 1) := by decide +kernel
theorem dX7_setSight_99 : decode cX7_setSight 99 = .ok (.getfield 13, 3) := by decide +kernel
theorem dX7_setSight_102 : decode cX7_setSight 102 = .ok (.iload_n 1, 1) := by decide +kernel
theorem dX7_setSight_103 : decode cX7_setSight 103 = .ok (.iaload, 1) := by decide +kernel
theorem dX7_setSight_104 : decode cX7_setSight 104 = .ok (.invokestatic 59, 3) := by decide +kernel
theorem dX7_setSight_107 : decode cX7_setSight 107 = .ok (.ireturn, 1) := by decide +kernel
set_option maxRecDepth 20000 in
theorem ggX7_setFog_X7_isStation : GoodIn wsX7_setFog wsX7_isStation := goodIn_r _ [7, 8, 9, 10, 6, 11, 23, 24, 25, 26, 27, 28, 29, 30, 31, 32, 33, 34, 35, 36] (by decide +kernel) (by decide +kernel)
set_option maxRecDepth 20000 in
theorem gX7_setFog_X7_isStation : GoodIn wsX7_setFog (wsV RX7 55 RX7 yX7_isStation wsX7_isStation) := goodIn_app (goodIn_of _ (by decide +kernel)) ggX7_setFog_X7_isStation
set_option maxRecDepth 20000 in
theorem ggX7_setFog_X7_fail : GoodIn wsX7_setFog wsX7_fail := goodIn_r _ [15, 1, 23, 24, 25, 26, 27, 28, 29, 30, 31, 32, 33, 34, 35, 36] (by decide +kernel) (by decide +kernel)
set_option maxRecDepth 20000 in
theorem gX7_setFog_X7_fail : GoodIn wsX7_setFog (wsV RX7 51 RX7 yX7_fail wsX7_fail) := goodIn_app (goodIn_of _ (by decide +kernel)) ggX7_setFog_X7_fail
set_option maxRecDepth 20000 in
theorem ggX7_setFog_J6_bitCount_0f7a4 : GoodIn wsX7_setFog wsJ6_bitCount_0f7a4 := goodIn_r _ [19, 20, 21, 22] (by decide +kernel) (by decide +kernel)
set_option maxRecDepth 20000 in
theorem gX7_setFog_J6_bitCount_0f7a4 : GoodIn wsX7_setFog (va_wsS RX7 59 yJ6_bitCount_0f7a4 wsJ6_bitCount_0f7a4) := goodIn_app (goodIn_of _ (by decide +kernel)) ggX7_setFog_J6_bitCount_0f7a4
theorem dX7_setFog_0 : decode cX7_setFog 0 = .ok (.aload_n 0, 1) := by decide +kernel
theorem dX7_setFog_1 : decode cX7_setFog 1 = .ok (.iconst 0, 1) := by decide +kernel
theorem dX7_setFog_2 : decode cX7_setFog 2 = .ok (.putfield 34, 3) := by decide +kernel
theorem dX7_setFog_5 : decode cX7_setFog 5 = .ok (.aload_n 0, 1) := by decide +kernel
theorem dX7_setFog_6 : decode cX7_setFog 6 = .ok (.iload_n 1, 1) := by decide +kernel
theorem dX7_setFog_7 : decode cX7_setFog 7 = .ok (.invokevirtual 55, 3) := by decide +kernel
theorem dX7_setFog_10 : decode cX7_setFog 10 = .ok (.ifCond .ne 9, 3) := by decide +kernel
theorem dX7_setFog_13 : decode cX7_setFog 13 = .ok (.aload_n 0, 1) := by decide +kernel
theorem dX7_setFog_14 : decode cX7_setFog 14 = .ok (.iconst 1, 1) := by decide +kernel
theorem dX7_setFog_15 : decode cX7_setFog 15 = .ok (.invokevirtual 51, 3) := by decide +kernel
theorem dX7_setFog_18 : decode cX7_setFog 18 = .ok (.ireturn, 1) := by decide +kernel
theorem dX7_setFog_19 : decode cX7_setFog 19 = .ok (.aload_n 0, 1) := by decide +kernel
theorem dX7_setFog_20 : decode cX7_setFog 20 = .ok (.aload_n 0, 1) := by decide +kernel
theorem dX7_setFog_21 : decode cX7_setFog 21 = .ok (.getfield 64, 3) := by decide +kernel
theorem dX7_setFog_24 : decode cX7_setFog 24 = .ok (.iconst 1, 1) := by decide +kernel
theorem dX7_setFog_25 : decode cX7_setFog 25 = .ok (.iload_n 1, 1) := by decide +kernel
theorem dX7_setFog_26 : decode cX7_setFog 26 = .ok (.ishl, 1) := by decide +kernel
theorem dX7_setFog_27 : decode cX7_setFog 27 = .ok (.iconst (-1), 1) := by decide +kernel
theorem dX7_setFog_28 : decode cX7_setFog 28 = .ok (.ixor, 1) := by decide +kernel
theorem dX7_setFog_29 : decode cX7_setFog 29 = .ok (.iand, 1) := by decide +kernel
theorem dX7_setFog_30 : decode cX7_setFog 30 = .ok (.iload_n 2, 1) := by decide +kernel
theorem dX7_setFog_31 : decode cX7_setFog 31 = .ok (.ifCond .eq 9, 3) := by decide +kernel
theorem dX7_setFog_34 : decode cX7_setFog 34 = .ok (.iconst 1, 1) := by decide +kernel
theorem dX7_setFog_35 : decode cX7_setFog 35 = .ok (.iload_n 1, 1) := by decide +kernel
theorem dX7_setFog_36 : decode cX7_setFog 36 = .ok (.ishl, 1) := by decide +kernel
theorem dX7_setFog_37 : decode cX7_setFog 37 = .ok (.goto 4, 3) := by decide +kernel
theorem dX7_setFog_40 : decode cX7_setFog 40 = .ok (.iconst 0, 1) := by decide +kernel
theorem dX7_setFog_41 : decode cX7_setFog 41 = .ok (.ior, 1) := by decide +kernel
theorem dX7_setFog_42 : decode cX7_setFog 42 = .ok (.putfield 64, 3) := by decide +kernel
theorem dX7_setFog_45 : decode cX7_setFog 45 = .ok (.aload_n 0, 1) := by decide +kernel
theorem dX7_setFog_46 : decode cX7_setFog 46 = .ok (.getfield 64, 3) := by decide +kernel
theorem dX7_setFog_49 : decode cX7_setFog 49 = .ok (.invokestatic 59, 3) := by decide +kernel
theorem dX7_setFog_52 : decode cX7_setFog 52 = .ok (.ireturn, 1) := by decide +kernel
set_option maxRecDepth 20000 in
theorem ggX7_build_X7_isStation : GoodIn wsX7_build wsX7_isStation := goodIn_r _ [13, 14, 15, 16, 12, 17, 22, 23, 24, 25, 26, 27, 28, 29, 30, 31, 32, 33, 34, 35] (by decide +kernel) (by decide +kernel)
set_option maxRecDepth 20000 in
theorem gX7_build_X7_isStation : GoodIn wsX7_build (wsV RX7 55 RX7 yX7_isStation wsX7_isStation) := goodIn_app (goodIn_of _ (by decide +kernel)) ggX7_build_X7_isStation
set_option maxRecDepth 20000 in
theorem ggX7_build_X7_fail : GoodIn wsX7_build wsX7_fail := goodIn_r _ [21, 1, 22, 23, 24, 25, 26, 27, 28, 29, 30, 31, 32, 33, 34, 35] (by decide +kernel) (by decide +kernel)
set_option maxRecDepth 20000 in
theorem gX7_build_X7_fail : GoodIn wsX7_build (wsV RX7 51 RX7 yX7_fail wsX7_fail) := goodIn_app (goodIn_of _ (by decide +kernel)) ggX7_build_X7_fail
set_option maxRecDepth 20000 in
theorem ggX7_build_X7_isIn : GoodIn wsX7_build wsX7_isIn := goodIn_r _ [17] (by decide +kernel) (by decide +kernel)
set_option maxRecDepth 20000 in
theorem gX7_build_X7_isIn : GoodIn wsX7_build (va_wsS RX7 41 yX7_isIn wsX7_isIn) := goodIn_app (goodIn_of _ (by decide +kernel)) ggX7_build_X7_isIn
theorem dX7_build_0 : decode cX7_build 0 = .ok (.aload_n 0, 1) := by decide +kernel
theorem dX7_build_1 : decode cX7_build 1 = .ok (.iconst 0, 1) := by decide +kernel
theorem dX7_build_2 : decode cX7_build 2 = .ok (.putfield 34, 3) := by decide +kernel
theorem dX7_build_5 : decode cX7_build 5 = .ok (.aload_n 0, 1) := by decide +kernel
theorem dX7_build_6 : decode cX7_build 6 = .ok (.iload_n 1, 1) := by decide +kernel
theorem dX7_build_7 : decode cX7_build 7 = .ok (.invokevirtual 55, 3) := by decide +kernel
theorem dX7_build_10 : decode cX7_build 10 = .ok (.ifCond .eq 11, 3) := by decide +kernel
theorem dX7_build_13 : decode cX7_build 13 = .ok (.aload_n 0, 1) := by decide +kernel
theorem dX7_build_14 : decode cX7_build 14 = .ok (.iload_n 2, 1) := by decide +kernel
theorem dX7_build_15 : decode cX7_build 15 = .ok (.invokevirtual 55, 3) := by decide +kernel
theorem dX7_build_18 : decode cX7_build 18 = .ok (.ifCond .ne 9, 3) := by decide +kernel
theorem dX7_build_21 : decode cX7_build 21 = .ok (.aload_n 0, 1) := by decide +kernel
theorem dX7_build_22 : decode cX7_build 22 = .ok (.iconst 1, 1) := by decide +kernel
theorem dX7_build_23 : decode cX7_build 23 = .ok (.invokevirtual 51, 3) := by decide +kernel
theorem dX7_build_26 : decode cX7_build 26 = .ok (.ireturn, 1) := by decide +kernel
theorem dX7_build_27 : decode cX7_build 27 = .ok (.iload_n 1, 1) := by decide +kernel
theorem dX7_build_28 : decode cX7_build 28 = .ok (.iload_n 2, 1) := by decide +kernel
theorem dX7_build_29 : decode cX7_build 29 = .ok (.if_icmp .eq 13, 3) := by decide +kernel
theorem dX7_build_32 : decode cX7_build 32 = .ok (.iload_n 3, 1) := by decide +kernel
theorem dX7_build_33 : decode cX7_build 33 = .ok (.iconst 1, 1) := by decide +kernel
theorem dX7_build_34 : decode cX7_build 34 = .ok (.bipush 20, 2) := by decide +kernel
theorem dX7_build_36 : decode cX7_build 36 = .ok (.invokestatic 41, 3) := by decide +kernel
theorem dX7_build_39 : decode cX7_build 39 = .ok (.ifCond .ne 9, 3) := by decide +kernel
theorem dX7_build_42 : decode cX7_build 42 = .ok (.aload_n 0, 1) := by decide +kernel
theorem dX7_build_43 : decode cX7_build 43 = .ok (.iconst 2, 1) := by decide +kernel
theorem dX7_build_44 : decode cX7_build 44 = .ok (.invokevirtual 51, 3) := by decide +kernel
theorem dX7_build_47 : decode cX7_build 47 = .ok (.ireturn, 1) := by decide +kernel
theorem dX7_build_48 : decode cX7_build 48 = .ok (.aload_n 0, 1) := by decide +kernel
theorem dX7_build_49 : decode cX7_build 49 = .ok (.getfield 45, 3) := by decide +kernel
theorem dX7_build_52 : decode cX7_build 52 = .ok (.bipush 15, 2) := by decide +kernel
theorem dX7_build_54 : decode cX7_build 54 = .ok (.if_icmp .ne 9, 3) := by decide +kernel
theorem dX7_build_57 : decode cX7_build 57 = .ok (.aload_n 0, 1) := by decide +kernel
theorem dX7_build_58 : decode cX7_build 58 = .ok (.iconst 3, 1) := by decide +kernel
theorem dX7_build_59 : decode cX7_build 59 = .ok (.invokevirtual 51, 3) := by decide +kernel
theorem dX7_build_62 : decode cX7_build 62 = .ok (.ireturn, 1) := by decide +kernel
theorem dX7_build_63 : decode cX7_build 63 = .ok (.iconst 3, 1) := by decide +kernel
theorem dX7_build_64 : decode cX7_build 64 = .ok (.newarray .int, 2) := by decide +kernel
theorem dX7_build_66 : decode cX7_build 66 = .ok (.dup, 1) := by decide +kernel
theorem dX7_build_67 : decode cX7_build 67 = .ok (.iconst 0, 1) := by decide +kernel
theorem dX7_build_68 : decode cX7_build 68 = .ok (.iload_n 1, 1) := by decide +kernel
theorem dX7_build_69 : decode cX7_build 69 = .ok (.iastore, 1) := by decide +kernel
theorem dX7_build_70 : decode cX7_build 70 = .ok (.dup, 1) := by decide +kernel
theorem dX7_build_71 : decode cX7_build 71 = .ok (.iconst 1, 1) := by decide +kernel
theorem dX7_build_72 : decode cX7_build 72 = .ok (.iload_n 2, 1) := by decide +kernel
theorem dX7_build_73 : decode cX7_build 73 = .ok (.iastore, 1) := by decide +kernel
theorem dX7_build_74 : decode cX7_build 74 = .ok (.dup, 1) := by decide +kernel
theorem dX7_build_75 : decode cX7_build 75 = .ok (.iconst 2, 1) := by decide +kernel
theorem dX7_build_76 : decode cX7_build 76 = .ok (.iload_n 3, 1) := by decide +kernel
theorem dX7_build_77 : decode cX7_build 77 = .ok (.iastore, 1) := by decide +kernel
theorem dX7_build_78 : decode cX7_build 78 = .ok (.astore 4, 2) := by decide +kernel
theorem dX7_build_80 : decode cX7_build 80 = .ok (.aload 4, 2) := by decide +kernel
theorem dX7_build_82 : decode cX7_build 82 = .ok (.iconst 0, 1) := by decide +kernel
theorem dX7_build_83 : decode cX7_build 83 = .ok (.aload_n 0, 1) := by decide +kernel
theorem dX7_build_84 : decode cX7_build 84 = .ok (.getfield 16, 3) := by decide +kernel
theorem dX7_build_87 : decode cX7_build 87 = .ok (.iconst 3, 1) := by decide +kernel
theorem dX7_build_88 : decode cX7_build 88 = .ok (.aload_n 0, 1) := by decide +kernel
theorem dX7_build_89 : decode cX7_build 89 = .ok (.getfield 45, 3) := by decide +kernel
theorem dX7_build_92 : decode cX7_build 92 = .ok (.imul, 1) := by decide +kernel
theorem dX7_build_93 : decode cX7_build 93 = .ok (.iconst 3, 1) := by decide +kernel
theorem dX7_build_94 : decode cX7_build 94 = .ok (.invokestatic 67, 3) := by decide +kernel
theorem dX7_build_97 : decode cX7_build 97 = .ok (.aload_n 0, 1) := by decide +kernel
theorem dX7_build_98 : decode cX7_build 98 = .ok (.dup, 1) := by decide +kernel
theorem dX7_build_99 : decode cX7_build 99 = .ok (.getfield 45, 3) := by decide +kernel
theorem dX7_build_102 : decode cX7_build 102 = .ok (.iconst 1, 1) := by decide +kernel
theorem dX7_build_103 : decode cX7_build 103 = .ok (.iadd, 1) := by decide +kernel
theorem dX7_build_104 : decode cX7_build 104 = .ok (.putfield 45, 3) := by decide +kernel
theorem dX7_build_107 : decode cX7_build 107 = .ok (.aload_n 0, 1) := by decide +kernel
theorem dX7_build_108 : decode cX7_build 108 = .ok (.getfield 45, 3) := by decide +kernel
theorem dX7_build_111 : decode cX7_build 111 = .ok (.iconst 1, 1) := by decide +kernel
theorem dX7_build_112 : decode cX7_build 112 = .ok (.isub, 1) := by decide +kernel
theorem dX7_build_113 : decode cX7_build 113 = .ok (.ireturn, 1) := by decide +kernel
theorem dX7_putMule_0 : decode cX7_putMule 0 = .ok (.iconst 5, 1) := by decide +kernel
theorem dX7_putMule_1 : decode cX7_putMule 1 = .ok (.newarray .int, 2) := by decide +kernel
theorem dX7_putMule_3 : decode cX7_putMule 3 = .ok (.dup, 1) := by decide +kernel
theorem dX7_putMule_4 : decode cX7_putMule 4 = .ok (.iconst 0, 1) := by decide +kernel
theorem dX7_putMule_5 : decode cX7_putMule 5 = .ok (.iload_n 1, 1) := by decide +kernel
theorem dX7_putMule_6 : decode cX7_putMule 6 = .ok (.iastore, 1) := by decide +kernel
theorem dX7_putMule_7 : decode cX7_putMule 7 = .ok (.dup, 1) := by decide +kernel
theorem dX7_putMule_8 : decode cX7_putMule 8 = .ok (.iconst 1, 1) := by decide +kernel
theorem dX7_putMule_9 : decode cX7_putMule 9 = .ok (.iload_n 2, 1) := by decide +kernel
theorem dX7_putMule_10 : decode cX7_putMule 10 = .ok (.iastore, 1) := by decide +kernel
theorem dX7_putMule_11 : decode cX7_putMule 11 = .ok (.dup, 1) := by decide +kernel
theorem dX7_putMule_12 : decode cX7_putMule 12 = .ok (.iconst 2, 1) := by decide +kernel
theorem dX7_putMule_13 : decode cX7_putMule 13 = .ok (.iload_n 3, 1) := by decide +kernel
theorem dX7_putMule_14 : decode cX7_putMule 14 = .ok (.iastore, 1) := by decide +kernel
theorem dX7_putMule_15 : decode cX7_putMule 15 = .ok (.dup, 1) := by decide +kernel
theorem dX7_putMule_16 : decode cX7_putMule 16 = .ok (.iconst 3, 1) := by decide +kernel
theorem dX7_putMule_17 : decode cX7_putMule 17 = .ok (.iconst 0, 1) := by decide +kernel
theorem dX7_putMule_18 : decode cX7_putMule 18 = .ok (.iastore, 1) := by decide +kernel
theorem dX7_putMule_19 : decode cX7_putMule 19 = .ok (.dup, 1) := by decide +kernel
theorem dX7_putMule_20 : decode cX7_putMule 20 = .ok (.iconst 4, 1) := by decide +kernel
theorem dX7_putMule_21 : decode cX7_putMule 21 = .ok (.iconst 0, 1) := by decide +kernel
theorem dX7_putMule_22 : decode cX7_putMule 22 = .ok (.iastore, 1) := by decide +kernel
theorem dX7_putMule_23 : decode cX7_putMule 23 = .ok (.astore 4, 2) := by decide +kernel
theorem dX7_putMule_25 : decode cX7_putMule 25 = .ok (.aload 4, 2) := by decide +kernel
theorem dX7_putMule_27 : decode cX7_putMule 27 = .ok (.iconst 0, 1) := by decide +kernel
theorem dX7_putMule_28 : decode cX7_putMule 28 = .ok (.aload_n 0, 1) := by decide +kernel
theorem dX7_putMule_29 : decode cX7_putMule 29 = .ok (.getfield 19, 3) := by decide +kernel
theorem dX7_putMule_32 : decode cX7_putMule 32 = .ok (.iconst 5, 1) := by decide +kernel
theorem dX7_putMule_33 : decode cX7_putMule 33 = .ok (.aload_n 0, 1) := by decide +kernel
theorem dX7_putMule_34 : decode cX7_putMule 34 = .ok (.getfield 73, 3) := by decide +kernel
theorem dX7_putMule_37 : decode cX7_putMule 37 = .ok (.imul, 1) := by decide +kernel
theorem dX7_putMule_38 : decode cX7_putMule 38 = .ok (.iconst 5, 1) := by decide +kernel
theorem dX7_putMule_39 : decode cX7_putMule 39 = .ok (.invokestatic 67, 3) := by decide +kernel
theorem dX7_putMule_42 : decode cX7_putMule 42 = .ok (.aload_n 0, 1) := by decide +kernel
theorem dX7_putMule_43 : decode cX7_putMule 43 = .ok (.dup, 1) := by decide +kernel
theorem dX7_putMule_44 : decode cX7_putMule 44 = .ok (.getfield 73, 3) := by decide +kernel
theorem dX7_putMule_47 : decode cX7_putMule 47 = .ok (.iconst 1, 1) := by decide +kernel
theorem dX7_putMule_48 : decode cX7_putMule 48 = .ok (.iadd, 1) := by decide +kernel
theorem dX7_putMule_49 : decode cX7_putMule 49 = .ok (.putfield 73, 3) := by decide +kernel
theorem dX7_putMule_52 : decode cX7_putMule 52 = .ok (.return_, 1) := by decide +kernel
set_option maxRecDepth 20000 in
theorem ggX7_addMule_X7_isRoad : GoodIn wsX7_addMule wsX7_isRoad := goodIn_r _ [7, 8, 9, 10, 6, 11, 31, 32, 33, 34, 35, 36, 37, 38, 39, 40, 41, 42, 43, 44] (by decide +kernel) (by decide +kernel)
set_option maxRecDepth 20000 in
theorem gX7_addMule_X7_isRoad : GoodIn wsX7_addMule (wsV RX7 76 RX7 yX7_isRoad wsX7_isRoad) := goodIn_app (goodIn_of _ (by decide +kernel)) ggX7_addMule_X7_isRoad
set_option maxRecDepth 20000 in
theorem ggX7_addMule_X7_fail : GoodIn wsX7_addMule wsX7_fail := goodIn_r _ [15, 1, 31, 32, 33, 34, 35, 36, 37, 38, 39, 40, 41, 42, 43, 44] (by decide +kernel) (by decide +kernel)
set_option maxRecDepth 20000 in
theorem gX7_addMule_X7_fail : GoodIn wsX7_addMule (wsV RX7 51 RX7 yX7_fail wsX7_fail) := goodIn_app (goodIn_of _ (by decide +kernel)) ggX7_addMule_X7_fail
set_option maxRecDepth 20000 in
theorem ggX7_addMule_X7_isIn : GoodIn wsX7_addMule wsX7_isIn := goodIn_r _ [11] (by decide +kernel) (by decide +kernel)
set_option maxRecDepth 20000 in
theorem gX7_addMule_X7_isIn : GoodIn wsX7_addMule (va_wsS RX7 41 yX7_isIn wsX7_isIn) := goodIn_app (goodIn_of _ (by decide +kernel)) ggX7_addMule_X7_isIn
set_option maxRecDepth 20000 in
theorem ggX7_addMule_X7_ro : GoodIn wsX7_addMule wsX7_ro := goodIn_r _ [19, 20, 31, 32, 33, 34, 35, 36, 37, 38, 39, 40, 41, 42, 43, 44] (by decide +kernel) (by decide +kernel)
set_option maxRecDepth 20000 in
theorem gX7_addMule_X7_ro : GoodIn wsX7_addMule (wsV RX7 79 RX7 yX7_ro wsX7_ro) := goodIn_app (goodIn_of _ (by decide +kernel)) ggX7_addMule_X7_ro
set_option maxRecDepth 20000 in
theorem ggX7_addMule_X7_putMule : GoodIn wsX7_addMule wsX7_putMule := goodIn_r _ [24, 25, 26, 2, 27, 28, 29, 30, 31, 32, 33, 34, 35, 36, 37, 38, 39, 40, 41, 42, 43, 44] (by decide +kernel) (by decide +kernel)
set_option maxRecDepth 20000 in
theorem gX7_addMule_X7_putMule : GoodIn wsX7_addMule (wsV RX7 83 RX7 yX7_putMule wsX7_putMule) := goodIn_app (goodIn_of _ (by decide +kernel)) ggX7_addMule_X7_putMule
theorem dX7_addMule_0 : decode cX7_addMule 0 = .ok (.aload_n 0, 1) := by decide +kernel
theorem dX7_addMule_1 : decode cX7_addMule 1 = .ok (.iconst 0, 1) := by decide +kernel
theorem dX7_addMule_2 : decode cX7_addMule 2 = .ok (.putfield 34, 3) := by decide +kernel
theorem dX7_addMule_5 : decode cX7_addMule 5 = .ok (.aload_n 0, 1) := by decide +kernel
theorem dX7_addMule_6 : decode cX7_addMule 6 = .ok (.iload_n 1, 1) := by decide +kernel
theorem dX7_addMule_7 : decode cX7_addMule 7 = .ok (.invokevirtual 76, 3) := by decide +kernel
theorem dX7_addMule_10 : decode cX7_addMule 10 = .ok (.ifCond .ne 9, 3) := by decide +kernel
theorem dX7_addMule_13 : decode cX7_addMule 13 = .ok (.aload_n 0, 1) := by decide +kernel
theorem dX7_addMule_14 : decode cX7_addMule 14 = .ok (.iconst 1, 1) := by decide +kernel
theorem dX7_addMule_15 : decode cX7_addMule 15 = .ok (.invokevirtual 51, 3) := by decide +kernel
theorem dX7_addMule_18 : decode cX7_addMule 18 = .ok (.ireturn, 1) := by decide +kernel
theorem dX7_addMule_19 : decode cX7_addMule 19 = .ok (.iload_n 2, 1) := by decide +kernel
theorem dX7_addMule_20 : decode cX7_addMule 20 = .ok (.iconst 1, 1) := by decide +kernel
theorem dX7_addMule_21 : decode cX7_addMule 21 = .ok (.bipush 6, 2) := by decide +kernel
theorem dX7_addMule_23 : decode cX7_addMule 23 = .ok (.invokestatic 41, 3) := by decide +kernel
theorem dX7_addMule_26 : decode cX7_addMule 26 = .ok (.ifCond .ne 9, 3) := by decide +kernel
theorem dX7_addMule_29 : decode cX7_addMule 29 = .ok (.aload_n 0, 1) := by decide +kernel
theorem dX7_addMule_30 : decode cX7_addMule 30 = .ok (.iconst 2, 1) := by decide +kernel
theorem dX7_addMule_31 : decode cX7_addMule 31 = .ok (.invokevirtual 51, 3) := by decide +kernel
theorem dX7_addMule_34 : decode cX7_addMule 34 = .ok (.ireturn, 1) := by decide +kernel
theorem dX7_addMule_35 : decode cX7_addMule 35 = .ok (.aload_n 0, 1) := by decide +kernel
theorem dX7_addMule_36 : decode cX7_addMule 36 = .ok (.getfield 73, 3) := by decide +kernel
theorem dX7_addMule_39 : decode cX7_addMule 39 = .ok (.bipush 12, 2) := by decide +kernel
theorem dX7_addMule_41 : decode cX7_addMule 41 = .ok (.if_icmp .ne 9, 3) := by decide +kernel
theorem dX7_addMule_44 : decode cX7_addMule 44 = .ok (.aload_n 0, 1) := by decide +kernel
theorem dX7_addMule_45 : decode cX7_addMule 45 = .ok (.iconst 3, 1) := by decide +kernel
theorem dX7_addMule_46 : decode cX7_addMule 46 = .ok (.invokevirtual 51, 3) := by decide +kernel
theorem dX7_addMule_49 : decode cX7_addMule 49 = .ok (.ireturn, 1) := by decide +kernel
theorem dX7_addMule_50 : decode cX7_addMule 50 = .ok (.aload_n 0, 1) := by decide +kernel
theorem dX7_addMule_51 : decode cX7_addMule 51 = .ok (.iload_n 1, 1) := by decide +kernel
theorem dX7_addMule_52 : decode cX7_addMule 52 = .ok (.iload_n 2, 1) := by decide +kernel
theorem dX7_addMule_53 : decode cX7_addMule 53 = .ok (.aload_n 0, 1) := by decide +kernel
theorem dX7_addMule_54 : decode cX7_addMule 54 = .ok (.iload_n 1, 1) := by decide +kernel
theorem dX7_addMule_55 : decode cX7_addMule 55 = .ok (.iload_n 3, 1) := by decide +kernel
theorem dX7_addMule_56 : decode cX7_addMule 56 = .ok (.ifCond .eq 7, 3) := by decide +kernel
theorem dX7_addMule_59 : decode cX7_addMule 59 = .ok (.iconst 1, 1) := by decide +kernel
theorem dX7_addMule_60 : decode cX7_addMule 60 = .ok (.goto 4, 3) := by decide +kernel
theorem dX7_addMule_63 : decode cX7_addMule 63 = .ok (.iconst 0, 1) := by decide +kernel
theorem dX7_addMule_64 : decode cX7_addMule 64 = .ok (.invokevirtual 79, 3) := by decide +kernel
theorem dX7_addMule_67 : decode cX7_addMule 67 = .ok (.invokevirtual 83, 3) := by decide +kernel
theorem dX7_addMule_70 : decode cX7_addMule 70 = .ok (.aload_n 0, 1) := by decide +kernel
theorem dX7_addMule_71 : decode cX7_addMule 71 = .ok (.getfield 73, 3) := by decide +kernel
theorem dX7_addMule_74 : decode cX7_addMule 74 = .ok (.iconst 1, 1) := by decide +kernel
theorem dX7_addMule_75 : decode cX7_addMule 75 = .ok (.isub, 1) := by decide +kernel
theorem dX7_addMule_76 : decode cX7_addMule 76 = .ok (.ireturn, 1) := by decide +kernel
set_option maxRecDepth 20000 in
theorem ggX7_lettersAt_X7_le : GoodIn wsX7_lettersAt wsX7_le := goodIn_r _ [6, 7, 8, 9, 10, 11, 12, 13, 14, 15, 16, 17, 18, 19, 20, 21] (by decide +kernel) (by decide +kernel)
set_option maxRecDepth 20000 in
theorem gX7_lettersAt_X7_le : GoodIn wsX7_lettersAt (wsV RX7 87 RX7 yX7_le wsX7_le) := goodIn_app (goodIn_of _ (by decide +kernel)) ggX7_lettersAt_X7_le
theorem dX7_lettersAt_0 : decode cX7_lettersAt 0 = .ok (.iconst 0, 1) := by decide +kernel
theorem dX7_lettersAt_1 : decode cX7_lettersAt 1 = .ok (.istore 4, 2) := by decide +kernel
theorem dX7_lettersAt_3 : decode cX7_lettersAt 3 = .ok (.iconst 0, 1) := by decide +kernel
theorem dX7_lettersAt_4 : decode cX7_lettersAt 4 = .ok (.istore 5, 2) := by decide +kernel
theorem dX7_lettersAt_6 : decode cX7_lettersAt 6 = .ok (.iload 5, 2) := by decide +kernel
theorem dX7_lettersAt_8 : decode cX7_lettersAt 8 = .ok (.aload_n 0, 1) := by decide +kernel
theorem dX7_lettersAt_9 : decode cX7_lettersAt 9 = .ok (.getfield 48, 3) := by decide +kernel
theorem dX7_lettersAt_12 : decode cX7_lettersAt 12 = .ok (.if_icmp .ge 46, 3) := by decide +kernel
theorem dX7_lettersAt_15 : decode cX7_lettersAt 15 = .ok (.iload 4, 2) := by decide +kernel
theorem dX7_lettersAt_17 : decode cX7_lettersAt 17 = .ok (.aload_n 0, 1) := by decide +kernel
theorem dX7_lettersAt_18 : decode cX7_lettersAt 18 = .ok (.iload 5, 2) := by decide +kernel
theorem dX7_lettersAt_20 : decode cX7_lettersAt 20 = .ok (.iconst 3, 1) := by decide +kernel
theorem dX7_lettersAt_21 : decode cX7_lettersAt 21 = .ok (.invokevirtual 87, 3) := by decide +kernel
theorem dX7_lettersAt_24 : decode cX7_lettersAt 24 = .ok (.iload_n 1, 1) := by decide +kernel
theorem dX7_lettersAt_25 : decode cX7_lettersAt 25 = .ok (.if_icmp .ne 23, 3) := by decide +kernel
theorem dX7_lettersAt_28 : decode cX7_lettersAt 28 = .ok (.iload_n 2, 1) := by decide +kernel
theorem dX7_lettersAt_29 : decode cX7_lettersAt 29 = .ok (.iconst (-1), 1) := by decide +kernel
theorem dX7_lettersAt_30 : decode cX7_lettersAt 30 = .ok (.if_icmp .eq 14, 3) := by decide +kernel
theorem dX7_lettersAt_33 : decode cX7_lettersAt 33 = .ok (.aload_n 0, 1) := by decide +kernel
theorem dX7_lettersAt_34 : decode cX7_lettersAt 34 = .ok (.iload 5, 2) := by decide +kernel
theorem dX7_lettersAt_36 : decode cX7_lettersAt 36 = .ok (.iload_n 2, 1) := by decide +kernel
theorem dX7_lettersAt_37 : decode cX7_lettersAt 37 = .ok (.invokevirtual 87, 3) := by decide +kernel
theorem dX7_lettersAt_40 : decode cX7_lettersAt 40 = .ok (.iload_n 3, 1) := by decide +kernel
theorem dX7_lettersAt_41 : decode cX7_lettersAt 41 = .ok (.if_icmp .ne 7, 3) := by decide +kernel
theorem dX7_lettersAt_44 : decode cX7_lettersAt 44 = .ok (.iconst 1, 1) := by decide +kernel
theorem dX7_lettersAt_45 : decode cX7_lettersAt 45 = .ok (.goto 4, 3) := by decide +kernel
theorem dX7_lettersAt_48 : decode cX7_lettersAt 48 = .ok (.iconst 0, 1) := by decide +kernel
theorem dX7_lettersAt_49 : decode cX7_lettersAt 49 = .ok (.iadd, 1) := by decide +kernel
theorem dX7_lettersAt_50 : decode cX7_lettersAt 50 = .ok (.istore 4, 2) := by decide +kernel
theorem dX7_lettersAt_52 : decode cX7_lettersAt 52 = .ok (.iinc 5 1, 3) := by decide +kernel
theorem dX7_lettersAt_55 : decode cX7_lettersAt 55 = .ok (.goto (-49), 3) := by decide +kernel
theorem dX7_lettersAt_58 : decode cX7_lettersAt 58 = .ok (.iload 4, 2) := by decide +kernel
theorem dX7_lettersAt_60 : decode cX7_lettersAt 60 = .ok (.ireturn, 1) := by decide +kernel
set_option maxRecDepth 20000 in
theorem ggX7_stationTold_X7_mu : GoodIn wsX7_stationTold wsX7_mu := goodIn_r _ [9, 10, 28, 29, 30, 31, 32, 33, 34, 35, 36, 37, 38, 39, 40, 41] (by decide +kernel) (by decide +kernel)
set_option maxRecDepth 20000 in
theorem gX7_stationTold_X7_mu : GoodIn wsX7_stationTold (wsV RX7 90 RX7 yX7_mu wsX7_mu) := goodIn_app (goodIn_of _ (by decide +kernel)) ggX7_stationTold_X7_mu
set_option maxRecDepth 20000 in
theorem ggX7_stationTold_X7_lettersAt : GoodIn wsX7_stationTold wsX7_lettersAt := goodIn_r _ [14, 15, 16, 17, 18, 8, 19, 20, 28, 29, 30, 31, 32, 33, 34, 35, 36, 37, 38, 39, 40, 41] (by decide +kernel) (by decide +kernel)
set_option maxRecDepth 20000 in
theorem gX7_stationTold_X7_lettersAt : GoodIn wsX7_stationTold (wsV RX7 93 RX7 yX7_lettersAt wsX7_lettersAt) := goodIn_app (goodIn_of _ (by decide +kernel)) ggX7_stationTold_X7_lettersAt
set_option maxRecDepth 20000 in
theorem ggX7_stationTold_J6_bitCount_0f7a4 : GoodIn wsX7_stationTold wsJ6_bitCount_0f7a4 := goodIn_r _ [24, 25, 26, 27] (by decide +kernel) (by decide +kernel)
set_option maxRecDepth 20000 in
theorem gX7_stationTold_J6_bitCount_0f7a4 : GoodIn wsX7_stationTold (va_wsS RX7 59 yJ6_bitCount_0f7a4 wsJ6_bitCount_0f7a4) := goodIn_app (goodIn_of _ (by decide +kernel)) ggX7_stationTold_J6_bitCount_0f7a4
theorem dX7_stationTold_0 : decode cX7_stationTold 0 = .ok (.iconst 0, 1) := by decide +kernel
theorem dX7_stationTold_1 : decode cX7_stationTold 1 = .ok (.istore_n 3, 1) := by decide +kernel
theorem dX7_stationTold_2 : decode cX7_stationTold 2 = .ok (.iconst 0, 1) := by decide +kernel
theorem dX7_stationTold_3 : decode cX7_stationTold 3 = .ok (.istore 4, 2) := by decide +kernel
theorem dX7_stationTold_5 : decode cX7_stationTold 5 = .ok (.iload 4, 2) := by decide +kernel
theorem dX7_stationTold_7 : decode cX7_stationTold 7 = .ok (.aload_n 0, 1) := by decide +kernel
theorem dX7_stationTold_8 : decode cX7_stationTold 8 = .ok (.getfield 73, 3) := by decide +kernel
theorem dX7_stationTold_11 : decode cX7_stationTold 11 = .ok (.if_icmp .ge 38, 3) := by decide +kernel
theorem dX7_stationTold_14 : decode cX7_stationTold 14 = .ok (.iload_n 3, 1) := by decide +kernel
theorem dX7_stationTold_15 : decode cX7_stationTold 15 = .ok (.aload_n 0, 1) := by decide +kernel
theorem dX7_stationTold_16 : decode cX7_stationTold 16 = .ok (.iload 4, 2) := by decide +kernel
theorem dX7_stationTold_18 : decode cX7_stationTold 18 = .ok (.iconst 2, 1) := by decide +kernel
theorem dX7_stationTold_19 : decode cX7_stationTold 19 = .ok (.invokevirtual 90, 3) := by decide +kernel
theorem dX7_stationTold_22 : decode cX7_stationTold 22 = .ok (.iload_n 1, 1) := by decide +kernel
theorem dX7_stationTold_23 : decode cX7_stationTold 23 = .ok (.if_icmp .ne 17, 3) := by decide +kernel
theorem dX7_stationTold_26 : decode cX7_stationTold 26 = .ok (.aload_n 0, 1) := by decide +kernel
theorem dX7_stationTold_27 : decode cX7_stationTold 27 = .ok (.iload 4, 2) := by decide +kernel
theorem dX7_stationTold_29 : decode cX7_stationTold 29 = .ok (.iconst 3, 1) := by decide +kernel
theorem dX7_stationTold_30 : decode cX7_stationTold 30 = .ok (.invokevirtual 90, 3) := by decide +kernel
theorem dX7_stationTold_33 : decode cX7_stationTold 33 = .ok (.ifCond .ne 7, 3) := by decide +kernel
theorem dX7_stationTold_36 : decode cX7_stationTold 36 = .ok (.iconst 1, 1) := by decide +kernel
theorem dX7_stationTold_37 : decode cX7_stationTold 37 = .ok (.goto 4, 3) := by decide +kernel
theorem dX7_stationTold_40 : decode cX7_stationTold 40 = .ok (.iconst 0, 1) := by decide +kernel
theorem dX7_stationTold_41 : decode cX7_stationTold 41 = .ok (.iadd, 1) := by decide +kernel
theorem dX7_stationTold_42 : decode cX7_stationTold 42 = .ok (.istore_n 3, 1) := by decide +kernel
theorem dX7_stationTold_43 : decode cX7_stationTold 43 = .ok (.iinc 4 1, 3) := by decide +kernel
theorem dX7_stationTold_46 : decode cX7_stationTold 46 = .ok (.goto (-41), 3) := by decide +kernel
theorem dX7_stationTold_49 : decode cX7_stationTold 49 = .ok (.iload_n 2, 1) := by decide +kernel
theorem dX7_stationTold_50 : decode cX7_stationTold 50 = .ok (.tableswitch 57 0 3 #[30, 37, 45, 47], 30) := by decide +kernel
theorem dX7_stationTold_80 : decode cX7_stationTold 80 = .ok (.aload_n 0, 1) := by decide +kernel
theorem dX7_stationTold_81 : decode cX7_stationTold 81 = .ok (.getfield 9, 3) := by decide +kernel
theorem dX7_stationTold_84 : decode cX7_stationTold 84 = .ok (.iload_n 1, 1) := by decide +kernel
theorem dX7_stationTold_85 : decode cX7_stationTold 85 = .ok (.iaload, 1) := by decide +kernel
theorem dX7_stationTold_86 : decode cX7_stationTold 86 = .ok (.ireturn, 1) := by decide +kernel
theorem dX7_stationTold_87 : decode cX7_stationTold 87 = .ok (.aload_n 0, 1) := by decide +kernel
theorem dX7_stationTold_88 : decode cX7_stationTold 88 = .ok (.iconst 0, 1) := by decide +kernel
theorem dX7_stationTold_89 : decode cX7_stationTold 89 = .ok (.iconst 4, 1) := by decide +kernel
theorem dX7_stationTold_90 : decode cX7_stationTold 90 = .ok (.iload_n 1, 1) := by decide +kernel
theorem dX7_stationTold_91 : decode cX7_stationTold 91 = .ok (.invokevirtual 93, 3) := by decide +kernel
theorem dX7_stationTold_94 : decode cX7_stationTold 94 = .ok (.ireturn, 1) := by decide +kernel
theorem dX7_stationTold_95 : decode cX7_stationTold 95 = .ok (.iload_n 3, 1) := by decide +kernel
theorem dX7_stationTold_96 : decode cX7_stationTold 96 = .ok (.ireturn, 1) := by decide +kernel
theorem dX7_stationTold_97 : decode cX7_stationTold 97 = .ok (.aload_n 0, 1) := by decide +kernel
theorem dX7_stationTold_98 : decode cX7_stationTold 98 = .ok (.getfield 13, 3) := by decide +kernel
theorem dX7_stationTold_101 : decode cX7_stationTold 101 = .ok (.iload_n 1, 1) := by decide +kernel
theorem dX7_stationTold_102 : decode cX7_stationTold 102 = .ok (.iaload, 1) := by decide +kernel
theorem dX7_stationTold_103 : decode cX7_stationTold 103 = .ok (.invokestatic 59, 3) := by decide +kernel
theorem dX7_stationTold_106 : decode cX7_stationTold 106 = .ok (.ireturn, 1) := by decide +kernel
theorem dX7_stationTold_107 : decode cX7_stationTold 107 = .ok (.aload_n 0, 1) := by decide +kernel
theorem dX7_stationTold_108 : decode cX7_stationTold 108 = .ok (.getfield 64, 3) := by decide +kernel
theorem dX7_stationTold_111 : decode cX7_stationTold 111 = .ok (.iload_n 1, 1) := by decide +kernel
theorem dX7_stationTold_112 : decode cX7_stationTold 112 = .ok (.ishr, 1) := by decide +kernel
theorem dX7_stationTold_113 : decode cX7_stationTold 113 = .ok (.iconst 1, 1) := by decide +kernel
theorem dX7_stationTold_114 : decode cX7_stationTold 114 = .ok (.iand, 1) := by decide +kernel
theorem dX7_stationTold_115 : decode cX7_stationTold 115 = .ok (.ireturn, 1) := by decide +kernel
set_option maxRecDepth 20000 in
theorem ggX7_station_X7_isStation : GoodIn wsX7_station wsX7_isStation := goodIn_r _ [6, 7, 8, 9, 5, 10, 45, 46, 47, 48, 49, 50, 51, 52, 53, 54, 55, 56, 57, 58] (by decide +kernel) (by decide +kernel)
set_option maxRecDepth 20000 in
theorem gX7_station_X7_isStation : GoodIn wsX7_station (wsV RX7 55 RX7 yX7_isStation wsX7_isStation) := goodIn_app (goodIn_of _ (by decide +kernel)) ggX7_station_X7_isStation
set_option maxRecDepth 20000 in
theorem ggX7_station_X7_isIn : GoodIn wsX7_station wsX7_isIn := goodIn_r _ [10] (by decide +kernel) (by decide +kernel)
set_option maxRecDepth 20000 in
theorem gX7_station_X7_isIn : GoodIn wsX7_station (va_wsS RX7 41 yX7_isIn wsX7_isIn) := goodIn_app (goodIn_of _ (by decide +kernel)) ggX7_station_X7_isIn
set_option maxRecDepth 20000 in
theorem ggX7_station_X7_stationTold : GoodIn wsX7_station wsX7_stationTold := goodIn_r _ [14, 15, 16, 17, 18, 19, 20, 21, 5, 22, 23, 24, 25, 26, 27, 28, 29, 30, 31, 32, 33, 34, 35, 36, 37, 38, 39, 40, 45, 46, 47, 48, 49, 50, 51, 52, 53, 54, 55, 56, 57, 58] (by decide +kernel) (by decide +kernel)
set_option maxRecDepth 20000 in
theorem gX7_station_X7_stationTold : GoodIn wsX7_station (wsV RX7 97 RX7 yX7_stationTold wsX7_stationTold) := goodIn_app (goodIn_of _ (by decide +kernel)) ggX7_station_X7_stationTold
set_option maxRecDepth 20000 in
theorem ggX7_station_X7_fail : GoodIn wsX7_station wsX7_fail := goodIn_r _ [44, 1, 45, 46, 47, 48, 49, 50, 51, 52, 53, 54, 55, 56, 57, 58] (by decide +kernel) (by decide +kernel)
set_option maxRecDepth 20000 in
theorem gX7_station_X7_fail : GoodIn wsX7_station (wsV RX7 51 RX7 yX7_fail wsX7_fail) := goodIn_app (goodIn_of _ (by decide +kernel)) ggX7_station_X7_fail
theorem dX7_station_0 : decode cX7_station 0 = .ok (.aload_n 0, 1) := by decide +kernel
theorem dX7_station_1 : decode cX7_station 1 = .ok (.iconst 0, 1) := by decide +kernel
theorem dX7_station_2 : decode cX7_station 2 = .ok (.putfield 34, 3) := by decide +kernel
theorem dX7_station_5 : decode cX7_station 5 = .ok (.aload_n 0, 1) := by decide +kernel
theorem dX7_station_6 : decode cX7_station 6 = .ok (.iload_n 1, 1) := by decide +kernel
theorem dX7_station_7 : decode cX7_station 7 = .ok (.invokevirtual 55, 3) := by decide +kernel
theorem dX7_station_10 : decode cX7_station 10 = .ok (.ifCond .eq 21, 3) := by decide +kernel
theorem dX7_station_13 : decode cX7_station 13 = .ok (.iload_n 2, 1) := by decide +kernel
theorem dX7_station_14 : decode cX7_station 14 = .ok (.iconst 0, 1) := by decide +kernel
theorem dX7_station_15 : decode cX7_station 15 = .ok (.iconst 4, 1) := by decide +kernel
theorem dX7_station_16 : decode cX7_station 16 = .ok (.invokestatic 41, 3) := by decide +kernel
theorem dX7_station_19 : decode cX7_station 19 = .ok (.ifCond .eq 12, 3) := by decide +kernel
theorem dX7_station_22 : decode cX7_station 22 = .ok (.aload_n 0, 1) := by decide +kernel
theorem dX7_station_23 : decode cX7_station 23 = .ok (.iload_n 1, 1) := by decide +kernel
theorem dX7_station_24 : decode cX7_station 24 = .ok (.iload_n 2, 1) := by decide +kernel
theorem dX7_station_25 : decode cX7_station 25 = .ok (.invokevirtual 97, 3) := by decide +kernel
theorem dX7_station_28 : decode cX7_station 28 = .ok (.goto 8, 3) := by decide +kernel
theorem dX7_station_31 : decode cX7_station 31 = .ok (.aload_n 0, 1) := by decide +kernel
theorem dX7_station_32 : decode cX7_station 32 = .ok (.iconst 1, 1) := by decide +kernel
theorem dX7_station_33 : decode cX7_station 33 = .ok (.invokevirtual 51, 3) := by decide +kernel
theorem dX7_station_36 : decode cX7_station 36 = .ok (.ireturn, 1) := by decide +kernel
set_option maxRecDepth 20000 in
theorem ggX7_otherEnd_X7_ro : GoodIn wsX7_otherEnd wsX7_ro := goodIn_r _ [5, 6, 7, 8, 9, 10, 11, 12, 13, 14, 15, 16, 17, 18, 19, 20] (by decide +kernel) (by decide +kernel)
set_option maxRecDepth 20000 in
theorem gX7_otherEnd_X7_ro : GoodIn wsX7_otherEnd (wsV RX7 79 RX7 yX7_ro wsX7_ro) := goodIn_app (goodIn_of _ (by decide +kernel)) ggX7_otherEnd_X7_ro
theorem dX7_otherEnd_0 : decode cX7_otherEnd 0 = .ok (.aload_n 0, 1) := by decide +kernel
theorem dX7_otherEnd_1 : decode cX7_otherEnd 1 = .ok (.iload_n 1, 1) := by decide +kernel
theorem dX7_otherEnd_2 : decode cX7_otherEnd 2 = .ok (.iconst 0, 1) := by decide +kernel
theorem dX7_otherEnd_3 : decode cX7_otherEnd 3 = .ok (.invokevirtual 79, 3) := by decide +kernel
theorem dX7_otherEnd_6 : decode cX7_otherEnd 6 = .ok (.iload_n 2, 1) := by decide +kernel
theorem dX7_otherEnd_7 : decode cX7_otherEnd 7 = .ok (.if_icmp .ne 12, 3) := by decide +kernel
theorem dX7_otherEnd_10 : decode cX7_otherEnd 10 = .ok (.aload_n 0, 1) := by decide +kernel
theorem dX7_otherEnd_11 : decode cX7_otherEnd 11 = .ok (.iload_n 1, 1) := by decide +kernel
theorem dX7_otherEnd_12 : decode cX7_otherEnd 12 = .ok (.iconst 1, 1) := by decide +kernel
theorem dX7_otherEnd_13 : decode cX7_otherEnd 13 = .ok (.invokevirtual 79, 3) := by decide +kernel
theorem dX7_otherEnd_16 : decode cX7_otherEnd 16 = .ok (.goto 9, 3) := by decide +kernel
theorem dX7_otherEnd_19 : decode cX7_otherEnd 19 = .ok (.aload_n 0, 1) := by decide +kernel
theorem dX7_otherEnd_20 : decode cX7_otherEnd 20 = .ok (.iload_n 1, 1) := by decide +kernel
theorem dX7_otherEnd_21 : decode cX7_otherEnd 21 = .ok (.iconst 0, 1) := by decide +kernel
theorem dX7_otherEnd_22 : decode cX7_otherEnd 22 = .ok (.invokevirtual 79, 3) := by decide +kernel
theorem dX7_otherEnd_25 : decode cX7_otherEnd 25 = .ok (.ireturn, 1) := by decide +kernel
set_option maxRecDepth 20000 in
theorem ggX7_hoursFrom_X7_ro : GoodIn wsX7_hoursFrom wsX7_ro := goodIn_r _ [10, 11, 16, 17, 18, 19, 20, 21, 22, 23, 24, 25, 26, 27, 28, 29] (by decide +kernel) (by decide +kernel)
set_option maxRecDepth 20000 in
theorem gX7_hoursFrom_X7_ro : GoodIn wsX7_hoursFrom (wsV RX7 79 RX7 yX7_ro wsX7_ro) := goodIn_app (goodIn_of _ (by decide +kernel)) ggX7_hoursFrom_X7_ro
set_option maxRecDepth 20000 in
theorem ggX7_hoursFrom_X7_otherEnd : GoodIn wsX7_hoursFrom wsX7_otherEnd := goodIn_r _ [15, 6, 7, 8, 9, 10, 11, 16, 17, 18, 19, 20, 21, 22, 23, 24, 25, 26, 27, 28, 29] (by decide +kernel) (by decide +kernel)
set_option maxRecDepth 20000 in
theorem gX7_hoursFrom_X7_otherEnd : GoodIn wsX7_hoursFrom (wsV RX7 100 RX7 yX7_otherEnd wsX7_otherEnd) := goodIn_app (goodIn_of _ (by decide +kernel)) ggX7_hoursFrom_X7_otherEnd
theorem dX7_hoursFrom_0 : decode cX7_hoursFrom 0 = .ok (.aload_n 0, 1) := by decide +kernel
theorem dX7_hoursFrom_1 : decode cX7_hoursFrom 1 = .ok (.iload_n 1, 1) := by decide +kernel
theorem dX7_hoursFrom_2 : decode cX7_hoursFrom 2 = .ok (.iconst 2, 1) := by decide +kernel
theorem dX7_hoursFrom_3 : decode cX7_hoursFrom 3 = .ok (.invokevirtual 79, 3) := by decide +kernel
theorem dX7_hoursFrom_6 : decode cX7_hoursFrom 6 = .ok (.iconst 0, 1) := by decide +kernel
theorem dX7_hoursFrom_7 : decode cX7_hoursFrom 7 = .ok (.aload_n 0, 1) := by decide +kernel
theorem dX7_hoursFrom_8 : decode cX7_hoursFrom 8 = .ok (.getfield 9, 3) := by decide +kernel
theorem dX7_hoursFrom_11 : decode cX7_hoursFrom 11 = .ok (.aload_n 0, 1) := by decide +kernel
theorem dX7_hoursFrom_12 : decode cX7_hoursFrom 12 = .ok (.iload_n 1, 1) := by decide +kernel
theorem dX7_hoursFrom_13 : decode cX7_hoursFrom 13 = .ok (.iload_n 2, 1) := by decide +kernel
theorem dX7_hoursFrom_14 : decode cX7_hoursFrom 14 = .ok (.invokevirtual 100, 3) := by decide +kernel
theorem dX7_hoursFrom_17 : decode cX7_hoursFrom 17 = .ok (.iaload, 1) := by decide +kernel
theorem dX7_hoursFrom_18 : decode cX7_hoursFrom 18 = .ok (.aload_n 0, 1) := by decide +kernel
theorem dX7_hoursFrom_19 : decode cX7_hoursFrom 19 = .ok (.getfield 9, 3) := by decide +kernel
theorem dX7_hoursFrom_22 : decode cX7_hoursFrom 22 = .ok (.iload_n 2, 1) := by decide +kernel
theorem dX7_hoursFrom_23 : decode cX7_hoursFrom 23 = .ok (.iaload, 1) := by decide +kernel
theorem dX7_hoursFrom_24 : decode cX7_hoursFrom 24 = .ok (.isub, 1) := by decide +kernel
theorem dX7_hoursFrom_25 : decode cX7_hoursFrom 25 = .ok (.invokestatic 103, 3) := by decide +kernel
theorem dX7_hoursFrom_28 : decode cX7_hoursFrom 28 = .ok (.sipush 200, 3) := by decide +kernel
theorem dX7_hoursFrom_31 : decode cX7_hoursFrom 31 = .ok (.idiv, 1) := by decide +kernel
theorem dX7_hoursFrom_32 : decode cX7_hoursFrom 32 = .ok (.iadd, 1) := by decide +kernel
theorem dX7_hoursFrom_33 : decode cX7_hoursFrom 33 = .ok (.ireturn, 1) := by decide +kernel
set_option maxRecDepth 20000 in
theorem ggX7_mulesOn_X7_mu : GoodIn wsX7_mulesOn wsX7_mu := goodIn_r _ [6, 7, 8, 9, 10, 11, 12, 13, 14, 15, 16, 17, 18, 19, 20, 21] (by decide +kernel) (by decide +kernel)
set_option maxRecDepth 20000 in
theorem gX7_mulesOn_X7_mu : GoodIn wsX7_mulesOn (wsV RX7 90 RX7 yX7_mu wsX7_mu) := goodIn_app (goodIn_of _ (by decide +kernel)) ggX7_mulesOn_X7_mu
theorem dX7_mulesOn_0 : decode cX7_mulesOn 0 = .ok (.iconst 0, 1) := by decide +kernel
theorem dX7_mulesOn_1 : decode cX7_mulesOn 1 = .ok (.istore_n 3, 1) := by decide +kernel
theorem dX7_mulesOn_2 : decode cX7_mulesOn 2 = .ok (.iconst 0, 1) := by decide +kernel
theorem dX7_mulesOn_3 : decode cX7_mulesOn 3 = .ok (.istore 4, 2) := by decide +kernel
theorem dX7_mulesOn_5 : decode cX7_mulesOn 5 = .ok (.iload 4, 2) := by decide +kernel
theorem dX7_mulesOn_7 : decode cX7_mulesOn 7 = .ok (.aload_n 0, 1) := by decide +kernel
theorem dX7_mulesOn_8 : decode cX7_mulesOn 8 = .ok (.getfield 73, 3) := by decide +kernel
theorem dX7_mulesOn_11 : decode cX7_mulesOn 11 = .ok (.if_icmp .ge 42, 3) := by decide +kernel
theorem dX7_mulesOn_14 : decode cX7_mulesOn 14 = .ok (.iload_n 3, 1) := by decide +kernel
theorem dX7_mulesOn_15 : decode cX7_mulesOn 15 = .ok (.aload_n 0, 1) := by decide +kernel
theorem dX7_mulesOn_16 : decode cX7_mulesOn 16 = .ok (.iload 4, 2) := by decide +kernel
theorem dX7_mulesOn_18 : decode cX7_mulesOn 18 = .ok (.iconst 0, 1) := by decide +kernel
theorem dX7_mulesOn_19 : decode cX7_mulesOn 19 = .ok (.invokevirtual 90, 3) := by decide +kernel
theorem dX7_mulesOn_22 : decode cX7_mulesOn 22 = .ok (.iload_n 1, 1) := by decide +kernel
theorem dX7_mulesOn_23 : decode cX7_mulesOn 23 = .ok (.if_icmp .ne 21, 3) := by decide +kernel
theorem dX7_mulesOn_26 : decode cX7_mulesOn 26 = .ok (.iload_n 2, 1) := by decide +kernel
theorem dX7_mulesOn_27 : decode cX7_mulesOn 27 = .ok (.ifCond .eq 13, 3) := by decide +kernel
theorem dX7_mulesOn_30 : decode cX7_mulesOn 30 = .ok (.aload_n 0, 1) := by decide +kernel
theorem dX7_mulesOn_31 : decode cX7_mulesOn 31 = .ok (.iload 4, 2) := by decide +kernel
theorem dX7_mulesOn_33 : decode cX7_mulesOn 33 = .ok (.iconst 3, 1) := by decide +kernel
theorem dX7_mulesOn_34 : decode cX7_mulesOn 34 = .ok (.invokevirtual 90, 3) := by decide +kernel
theorem dX7_mulesOn_37 : decode cX7_mulesOn 37 = .ok (.ifCond .le 7, 3) := by decide +kernel
theorem dX7_mulesOn_40 : decode cX7_mulesOn 40 = .ok (.iconst 1, 1) := by decide +kernel
theorem dX7_mulesOn_41 : decode cX7_mulesOn 41 = .ok (.goto 4, 3) := by decide +kernel
theorem dX7_mulesOn_44 : decode cX7_mulesOn 44 = .ok (.iconst 0, 1) := by decide +kernel
theorem dX7_mulesOn_45 : decode cX7_mulesOn 45 = .ok (.iadd, 1) := by decide +kernel
theorem dX7_mulesOn_46 : decode cX7_mulesOn 46 = .ok (.istore_n 3, 1) := by decide +kernel
theorem dX7_mulesOn_47 : decode cX7_mulesOn 47 = .ok (.iinc 4 1, 3) := by decide +kernel
theorem dX7_mulesOn_50 : decode cX7_mulesOn 50 = .ok (.goto (-45), 3) := by decide +kernel
theorem dX7_mulesOn_53 : decode cX7_mulesOn 53 = .ok (.iload_n 3, 1) := by decide +kernel
theorem dX7_mulesOn_54 : decode cX7_mulesOn 54 = .ok (.ireturn, 1) := by decide +kernel
set_option maxRecDepth 20000 in
theorem ggX7_roadTold_X7_ro : GoodIn wsX7_roadTold wsX7_ro := goodIn_r _ [5, 6, 30, 31, 32, 33, 34, 35, 36, 37, 38, 39, 40, 41, 42, 43] (by decide +kernel) (by decide +kernel)
set_option maxRecDepth 20000 in
theorem gX7_roadTold_X7_ro : GoodIn wsX7_roadTold (wsV RX7 79 RX7 yX7_ro wsX7_ro) := goodIn_app (goodIn_of _ (by decide +kernel)) ggX7_roadTold_X7_ro
set_option maxRecDepth 20000 in
theorem ggX7_roadTold_X7_hoursFrom : GoodIn wsX7_roadTold wsX7_hoursFrom := goodIn_r _ [10, 11, 12, 13, 14, 15, 1, 2, 3, 4, 5, 6, 16, 17, 18, 19, 30, 31, 32, 33, 34, 35, 36, 37, 38, 39, 40, 41, 42, 43] (by decide +kernel) (by decide +kernel)
set_option maxRecDepth 20000 in
theorem gX7_roadTold_X7_hoursFrom : GoodIn wsX7_roadTold (wsV RX7 108 RX7 yX7_hoursFrom wsX7_hoursFrom) := goodIn_app (goodIn_of _ (by decide +kernel)) ggX7_roadTold_X7_hoursFrom
set_option maxRecDepth 20000 in
theorem ggX7_roadTold_X7_mulesOn : GoodIn wsX7_roadTold wsX7_mulesOn := goodIn_r _ [23, 24, 25, 26, 27, 4, 28, 29, 30, 31, 32, 33, 34, 35, 36, 37, 38, 39, 40, 41, 42, 43] (by decide +kernel) (by decide +kernel)
set_option maxRecDepth 20000 in
theorem gX7_roadTold_X7_mulesOn : GoodIn wsX7_roadTold (wsV RX7 111 RX7 yX7_mulesOn wsX7_mulesOn) := goodIn_app (goodIn_of _ (by decide +kernel)) ggX7_roadTold_X7_mulesOn
theorem dX7_roadTold_0 : decode cX7_roadTold 0 = .ok (.iload_n 2, 1) := by decide +kernel
theorem dX7_roadTold_1 : decode cX7_roadTold 1 = .ok (.iconst 2, 1) := by decide +kernel
theorem dX7_roadTold_2 : decode cX7_roadTold 2 = .ok (.if_icmp .ge 12, 3) := by decide +kernel
theorem dX7_roadTold_5 : decode cX7_roadTold 5 = .ok (.aload_n 0, 1) := by decide +kernel
theorem dX7_roadTold_6 : decode cX7_roadTold 6 = .ok (.iload_n 1, 1) := by decide +kernel
theorem dX7_roadTold_7 : decode cX7_roadTold 7 = .ok (.iload_n 2, 1) := by decide +kernel
theorem dX7_roadTold_8 : decode cX7_roadTold 8 = .ok (.invokevirtual 79, 3) := by decide +kernel
theorem dX7_roadTold_11 : decode cX7_roadTold 11 = .ok (.goto 39, 3) := by decide +kernel
theorem dX7_roadTold_14 : decode cX7_roadTold 14 = .ok (.iload_n 2, 1) := by decide +kernel
theorem dX7_roadTold_15 : decode cX7_roadTold 15 = .ok (.iconst 4, 1) := by decide +kernel
theorem dX7_roadTold_16 : decode cX7_roadTold 16 = .ok (.if_icmp .ge 19, 3) := by decide +kernel
theorem dX7_roadTold_19 : decode cX7_roadTold 19 = .ok (.aload_n 0, 1) := by decide +kernel
theorem dX7_roadTold_20 : decode cX7_roadTold 20 = .ok (.iload_n 1, 1) := by decide +kernel
theorem dX7_roadTold_21 : decode cX7_roadTold 21 = .ok (.aload_n 0, 1) := by decide +kernel
theorem dX7_roadTold_22 : decode cX7_roadTold 22 = .ok (.iload_n 1, 1) := by decide +kernel
theorem dX7_roadTold_23 : decode cX7_roadTold 23 = .ok (.iload_n 2, 1) := by decide +kernel
theorem dX7_roadTold_24 : decode cX7_roadTold 24 = .ok (.iconst 2, 1) := by decide +kernel
theorem dX7_roadTold_25 : decode cX7_roadTold 25 = .ok (.isub, 1) := by decide +kernel
theorem dX7_roadTold_26 : decode cX7_roadTold 26 = .ok (.invokevirtual 79, 3) := by decide +kernel
theorem dX7_roadTold_29 : decode cX7_roadTold 29 = .ok (.invokevirtual 108, 3) := by decide +kernel
theorem dX7_roadTold_32 : decode cX7_roadTold 32 = .ok (.goto 18, 3) := by decide +kernel
theorem dX7_roadTold_35 : decode cX7_roadTold 35 = .ok (.aload_n 0, 1) := by decide +kernel
theorem dX7_roadTold_36 : decode cX7_roadTold 36 = .ok (.iload_n 1, 1) := by decide +kernel
theorem dX7_roadTold_37 : decode cX7_roadTold 37 = .ok (.iload_n 2, 1) := by decide +kernel
theorem dX7_roadTold_38 : decode cX7_roadTold 38 = .ok (.iconst 5, 1) := by decide +kernel
theorem dX7_roadTold_39 : decode cX7_roadTold 39 = .ok (.if_icmp .ne 7, 3) := by decide +kernel
theorem dX7_roadTold_42 : decode cX7_roadTold 42 = .ok (.iconst 1, 1) := by decide +kernel
theorem dX7_roadTold_43 : decode cX7_roadTold 43 = .ok (.goto 4, 3) := by decide +kernel
theorem dX7_roadTold_46 : decode cX7_roadTold 46 = .ok (.iconst 0, 1) := by decide +kernel
theorem dX7_roadTold_47 : decode cX7_roadTold 47 = .ok (.invokevirtual 111, 3) := by decide +kernel
theorem dX7_roadTold_50 : decode cX7_roadTold 50 = .ok (.ireturn, 1) := by decide +kernel
set_option maxRecDepth 20000 in
theorem ggX7_road_X7_isRoad : GoodIn wsX7_road wsX7_isRoad := goodIn_r _ [6, 7, 8, 9, 5, 10, 47, 48, 49, 50, 51, 52, 53, 54, 55, 56, 57, 58, 59, 60] (by decide +kernel) (by decide +kernel)
set_option maxRecDepth 20000 in
theorem gX7_road_X7_isRoad : GoodIn wsX7_road (wsV RX7 76 RX7 yX7_isRoad wsX7_isRoad) := goodIn_app (goodIn_of _ (by decide +kernel)) ggX7_road_X7_isRoad
set_option maxRecDepth 20000 in
theorem ggX7_road_X7_isIn : GoodIn wsX7_road wsX7_isIn := goodIn_r _ [10] (by decide +kernel) (by decide +kernel)
set_option maxRecDepth 20000 in
theorem gX7_road_X7_isIn : GoodIn wsX7_road (va_wsS RX7 41 yX7_isIn wsX7_isIn) := goodIn_app (goodIn_of _ (by decide +kernel)) ggX7_road_X7_isIn
set_option maxRecDepth 20000 in
theorem ggX7_road_X7_roadTold : GoodIn wsX7_road wsX7_roadTold := goodIn_r _ [14, 15, 16, 17, 5, 18, 19, 20, 21, 22, 23, 24, 25, 26, 27, 28, 29, 30, 31, 32, 33, 34, 35, 36, 37, 38, 39, 40, 41, 42, 47, 48, 49, 50, 51, 52, 53, 54, 55, 56, 57, 58, 59, 60] (by decide +kernel) (by decide +kernel)
set_option maxRecDepth 20000 in
theorem gX7_road_X7_roadTold : GoodIn wsX7_road (wsV RX7 115 RX7 yX7_roadTold wsX7_roadTold) := goodIn_app (goodIn_of _ (by decide +kernel)) ggX7_road_X7_roadTold
set_option maxRecDepth 20000 in
theorem ggX7_road_X7_fail : GoodIn wsX7_road wsX7_fail := goodIn_r _ [46, 1, 47, 48, 49, 50, 51, 52, 53, 54, 55, 56, 57, 58, 59, 60] (by decide +kernel) (by decide +kernel)
set_option maxRecDepth 20000 in
theorem gX7_road_X7_fail : GoodIn wsX7_road (wsV RX7 51 RX7 yX7_fail wsX7_fail) := goodIn_app (goodIn_of _ (by decide +kernel)) ggX7_road_X7_fail
theorem dX7_road_0 : decode cX7_road 0 = .ok (.aload_n 0, 1) := by decide +kernel
theorem dX7_road_1 : decode cX7_road 1 = .ok (.iconst 0, 1) := by decide +kernel
theorem dX7_road_2 : decode cX7_road 2 = .ok (.putfield 34, 3) := by decide +kernel
theorem dX7_road_5 : decode cX7_road 5 = .ok (.aload_n 0, 1) := by decide +kernel
theorem dX7_road_6 : decode cX7_road 6 = .ok (.iload_n 1, 1) := by decide +kernel
theorem dX7_road_7 : decode cX7_road 7 = .ok (.invokevirtual 76, 3) := by decide +kernel
theorem dX7_road_10 : decode cX7_road 10 = .ok (.ifCond .eq 21, 3) := by decide +kernel
theorem dX7_road_13 : decode cX7_road 13 = .ok (.iload_n 2, 1) := by decide +kernel
theorem dX7_road_14 : decode cX7_road 14 = .ok (.iconst 0, 1) := by decide +kernel
theorem dX7_road_15 : decode cX7_road 15 = .ok (.iconst 5, 1) := by decide +kernel
theorem dX7_road_16 : decode cX7_road 16 = .ok (.invokestatic 41, 3) := by decide +kernel
theorem dX7_road_19 : decode cX7_road 19 = .ok (.ifCond .eq 12, 3) := by decide +kernel
theorem dX7_road_22 : decode cX7_road 22 = .ok (.aload_n 0, 1) := by decide +kernel
theorem dX7_road_23 : decode cX7_road 23 = .ok (.iload_n 1, 1) := by decide +kernel
theorem dX7_road_24 : decode cX7_road 24 = .ok (.iload_n 2, 1) := by decide +kernel
theorem dX7_road_25 : decode cX7_road 25 = .ok (.invokevirtual 115, 3) := by decide +kernel
theorem dX7_road_28 : decode cX7_road 28 = .ok (.goto 8, 3) := by decide +kernel
theorem dX7_road_31 : decode cX7_road 31 = .ok (.aload_n 0, 1) := by decide +kernel
theorem dX7_road_32 : decode cX7_road 32 = .ok (.iconst 1, 1) := by decide +kernel
theorem dX7_road_33 : decode cX7_road 33 = .ok (.invokevirtual 51, 3) := by decide +kernel
theorem dX7_road_36 : decode cX7_road 36 = .ok (.ireturn, 1) := by decide +kernel
set_option maxRecDepth 20000 in
theorem ggX7_muleTold_X7_mu : GoodIn wsX7_muleTold wsX7_mu := goodIn_r _ [5, 6, 17, 18, 19, 20, 21, 22, 23, 24, 25, 26, 27, 28, 29, 30] (by decide +kernel) (by decide +kernel)
set_option maxRecDepth 20000 in
theorem gX7_muleTold_X7_mu : GoodIn wsX7_muleTold (wsV RX7 90 RX7 yX7_mu wsX7_mu) := goodIn_app (goodIn_of _ (by decide +kernel)) ggX7_muleTold_X7_mu
set_option maxRecDepth 20000 in
theorem ggX7_muleTold_X7_lettersAt : GoodIn wsX7_muleTold wsX7_lettersAt := goodIn_r _ [10, 11, 12, 13, 14, 4, 15, 16, 17, 18, 19, 20, 21, 22, 23, 24, 25, 26, 27, 28, 29, 30] (by decide +kernel) (by decide +kernel)
set_option maxRecDepth 20000 in
theorem gX7_muleTold_X7_lettersAt : GoodIn wsX7_muleTold (wsV RX7 93 RX7 yX7_lettersAt wsX7_lettersAt) := goodIn_app (goodIn_of _ (by decide +kernel)) ggX7_muleTold_X7_lettersAt
theorem dX7_muleTold_0 : decode cX7_muleTold 0 = .ok (.iload_n 2, 1) := by decide +kernel
theorem dX7_muleTold_1 : decode cX7_muleTold 1 = .ok (.iconst 4, 1) := by decide +kernel
theorem dX7_muleTold_2 : decode cX7_muleTold 2 = .ok (.if_icmp .ge 12, 3) := by decide +kernel
theorem dX7_muleTold_5 : decode cX7_muleTold 5 = .ok (.aload_n 0, 1) := by decide +kernel
theorem dX7_muleTold_6 : decode cX7_muleTold 6 = .ok (.iload_n 1, 1) := by decide +kernel
theorem dX7_muleTold_7 : decode cX7_muleTold 7 = .ok (.iload_n 2, 1) := by decide +kernel
theorem dX7_muleTold_8 : decode cX7_muleTold 8 = .ok (.invokevirtual 90, 3) := by decide +kernel
theorem dX7_muleTold_11 : decode cX7_muleTold 11 = .ok (.goto 24, 3) := by decide +kernel
theorem dX7_muleTold_14 : decode cX7_muleTold 14 = .ok (.iload_n 2, 1) := by decide +kernel
theorem dX7_muleTold_15 : decode cX7_muleTold 15 = .ok (.iconst 4, 1) := by decide +kernel
theorem dX7_muleTold_16 : decode cX7_muleTold 16 = .ok (.if_icmp .ne 13, 3) := by decide +kernel
theorem dX7_muleTold_19 : decode cX7_muleTold 19 = .ok (.aload_n 0, 1) := by decide +kernel
theorem dX7_muleTold_20 : decode cX7_muleTold 20 = .ok (.iconst 1, 1) := by decide +kernel
theorem dX7_muleTold_21 : decode cX7_muleTold 21 = .ok (.iconst 5, 1) := by decide +kernel
theorem dX7_muleTold_22 : decode cX7_muleTold 22 = .ok (.iload_n 1, 1) := by decide +kernel
theorem dX7_muleTold_23 : decode cX7_muleTold 23 = .ok (.invokevirtual 93, 3) := by decide +kernel
theorem dX7_muleTold_26 : decode cX7_muleTold 26 = .ok (.goto 9, 3) := by decide +kernel
theorem dX7_muleTold_29 : decode cX7_muleTold 29 = .ok (.aload_n 0, 1) := by decide +kernel
theorem dX7_muleTold_30 : decode cX7_muleTold 30 = .ok (.iload_n 1, 1) := by decide +kernel
theorem dX7_muleTold_31 : decode cX7_muleTold 31 = .ok (.iconst 4, 1) := by decide +kernel
theorem dX7_muleTold_32 : decode cX7_muleTold 32 = .ok (.invokevirtual 90, 3) := by decide +kernel
theorem dX7_muleTold_35 : decode cX7_muleTold 35 = .ok (.ireturn, 1) := by decide +kernel
set_option maxRecDepth 20000 in
theorem ggX7_mule_X7_isIn : GoodIn wsX7_mule wsX7_isIn := goodIn_r _ [6] (by decide +kernel) (by decide +kernel)
set_option maxRecDepth 20000 in
theorem gX7_mule_X7_isIn : GoodIn wsX7_mule (va_wsS RX7 41 yX7_isIn wsX7_isIn) := goodIn_app (goodIn_of _ (by decide +kernel)) ggX7_mule_X7_isIn
set_option maxRecDepth 20000 in
theorem ggX7_mule_X7_muleTold : GoodIn wsX7_mule wsX7_muleTold := goodIn_r _ [10, 11, 12, 13, 5, 14, 15, 16, 17, 18, 19, 20, 21, 22, 23, 24, 25, 30, 31, 32, 33, 34, 35, 36, 37, 38, 39, 40, 41, 42, 43] (by decide +kernel) (by decide +kernel)
set_option maxRecDepth 20000 in
theorem gX7_mule_X7_muleTold : GoodIn wsX7_mule (wsV RX7 118 RX7 yX7_muleTold wsX7_muleTold) := goodIn_app (goodIn_of _ (by decide +kernel)) ggX7_mule_X7_muleTold
set_option maxRecDepth 20000 in
theorem ggX7_mule_X7_fail : GoodIn wsX7_mule wsX7_fail := goodIn_r _ [29, 1, 30, 31, 32, 33, 34, 35, 36, 37, 38, 39, 40, 41, 42, 43] (by decide +kernel) (by decide +kernel)
set_option maxRecDepth 20000 in
theorem gX7_mule_X7_fail : GoodIn wsX7_mule (wsV RX7 51 RX7 yX7_fail wsX7_fail) := goodIn_app (goodIn_of _ (by decide +kernel)) ggX7_mule_X7_fail
theorem dX7_mule_0 : decode cX7_mule 0 = .ok (.aload_n 0, 1) := by decide +kernel
theorem dX7_mule_1 : decode cX7_mule 1 = .ok (.iconst 0, 1) := by decide +kernel
theorem dX7_mule_2 : decode cX7_mule 2 = .ok (.putfield 34, 3) := by decide +kernel
theorem dX7_mule_5 : decode cX7_mule 5 = .ok (.iload_n 1, 1) := by decide +kernel
theorem dX7_mule_6 : decode cX7_mule 6 = .ok (.iconst 0, 1) := by decide +kernel
theorem dX7_mule_7 : decode cX7_mule 7 = .ok (.aload_n 0, 1) := by decide +kernel
theorem dX7_mule_8 : decode cX7_mule 8 = .ok (.getfield 73, 3) := by decide +kernel
theorem dX7_mule_11 : decode cX7_mule 11 = .ok (.iconst 1, 1) := by decide +kernel
theorem dX7_mule_12 : decode cX7_mule 12 = .ok (.isub, 1) := by decide +kernel
theorem dX7_mule_13 : decode cX7_mule 13 = .ok (.invokestatic 41, 3) := by decide +kernel
theorem dX7_mule_16 : decode cX7_mule 16 = .ok (.ifCond .eq 21, 3) := by decide +kernel
theorem dX7_mule_19 : decode cX7_mule 19 = .ok (.iload_n 2, 1) := by decide +kernel
theorem dX7_mule_20 : decode cX7_mule 20 = .ok (.iconst 0, 1) := by decide +kernel
theorem dX7_mule_21 : decode cX7_mule 21 = .ok (.iconst 5, 1) := by decide +kernel
theorem dX7_mule_22 : decode cX7_mule 22 = .ok (.invokestatic 41, 3) := by decide +kernel
theorem dX7_mule_25 : decode cX7_mule 25 = .ok (.ifCond .eq 12, 3) := by decide +kernel
theorem dX7_mule_28 : decode cX7_mule 28 = .ok (.aload_n 0, 1) := by decide +kernel
theorem dX7_mule_29 : decode cX7_mule 29 = .ok (.iload_n 1, 1) := by decide +kernel
theorem dX7_mule_30 : decode cX7_mule 30 = .ok (.iload_n 2, 1) := by decide +kernel
theorem dX7_mule_31 : decode cX7_mule 31 = .ok (.invokevirtual 118, 3) := by decide +kernel
theorem dX7_mule_34 : decode cX7_mule 34 = .ok (.goto 8, 3) := by decide +kernel
theorem dX7_mule_37 : decode cX7_mule 37 = .ok (.aload_n 0, 1) := by decide +kernel
theorem dX7_mule_38 : decode cX7_mule 38 = .ok (.iconst 1, 1) := by decide +kernel
theorem dX7_mule_39 : decode cX7_mule 39 = .ok (.invokevirtual 51, 3) := by decide +kernel
theorem dX7_mule_42 : decode cX7_mule 42 = .ok (.ireturn, 1) := by decide +kernel
set_option maxRecDepth 20000 in
theorem ggX7_post_X7_isStation : GoodIn wsX7_post wsX7_isStation := goodIn_r _ [14, 15, 16, 17, 13, 18, 23, 24, 25, 26, 27, 28, 29, 30, 31, 32, 33, 34, 35, 36] (by decide +kernel) (by decide +kernel)
set_option maxRecDepth 20000 in
theorem gX7_post_X7_isStation : GoodIn wsX7_post (wsV RX7 55 RX7 yX7_isStation wsX7_isStation) := goodIn_app (goodIn_of _ (by decide +kernel)) ggX7_post_X7_isStation
set_option maxRecDepth 20000 in
theorem ggX7_post_X7_fail : GoodIn wsX7_post wsX7_fail := goodIn_r _ [22, 1, 23, 24, 25, 26, 27, 28, 29, 30, 31, 32, 33, 34, 35, 36] (by decide +kernel) (by decide +kernel)
set_option maxRecDepth 20000 in
theorem gX7_post_X7_fail : GoodIn wsX7_post (wsV RX7 51 RX7 yX7_fail wsX7_fail) := goodIn_app (goodIn_of _ (by decide +kernel)) ggX7_post_X7_fail
set_option maxRecDepth 20000 in
theorem ggX7_post_X7_isIn : GoodIn wsX7_post wsX7_isIn := goodIn_r _ [18] (by decide +kernel) (by decide +kernel)
set_option maxRecDepth 20000 in
theorem gX7_post_X7_isIn : GoodIn wsX7_post (va_wsS RX7 41 yX7_isIn wsX7_isIn) := goodIn_app (goodIn_of _ (by decide +kernel)) ggX7_post_X7_isIn
theorem dX7_post_0 : decode cX7_post 0 = .ok (.aload_n 0, 1) := by decide +kernel
theorem dX7_post_1 : decode cX7_post 1 = .ok (.iconst 0, 1) := by decide +kernel
theorem dX7_post_2 : decode cX7_post 2 = .ok (.putfield 34, 3) := by decide +kernel
theorem dX7_post_5 : decode cX7_post 5 = .ok (.aload_n 0, 1) := by decide +kernel
theorem dX7_post_6 : decode cX7_post 6 = .ok (.iload_n 1, 1) := by decide +kernel
theorem dX7_post_7 : decode cX7_post 7 = .ok (.invokevirtual 55, 3) := by decide +kernel
theorem dX7_post_10 : decode cX7_post 10 = .ok (.ifCond .eq 11, 3) := by decide +kernel
theorem dX7_post_13 : decode cX7_post 13 = .ok (.aload_n 0, 1) := by decide +kernel
theorem dX7_post_14 : decode cX7_post 14 = .ok (.iload_n 2, 1) := by decide +kernel
theorem dX7_post_15 : decode cX7_post 15 = .ok (.invokevirtual 55, 3) := by decide +kernel
theorem dX7_post_18 : decode cX7_post 18 = .ok (.ifCond .ne 9, 3) := by decide +kernel
theorem dX7_post_21 : decode cX7_post 21 = .ok (.aload_n 0, 1) := by decide +kernel
theorem dX7_post_22 : decode cX7_post 22 = .ok (.iconst 1, 1) := by decide +kernel
theorem dX7_post_23 : decode cX7_post 23 = .ok (.invokevirtual 51, 3) := by decide +kernel
theorem dX7_post_26 : decode cX7_post 26 = .ok (.ireturn, 1) := by decide +kernel
theorem dX7_post_27 : decode cX7_post 27 = .ok (.iload_n 1, 1) := by decide +kernel
theorem dX7_post_28 : decode cX7_post 28 = .ok (.iload_n 2, 1) := by decide +kernel
theorem dX7_post_29 : decode cX7_post 29 = .ok (.if_icmp .eq 13, 3) := by decide +kernel
theorem dX7_post_32 : decode cX7_post 32 = .ok (.iload_n 3, 1) := by decide +kernel
theorem dX7_post_33 : decode cX7_post 33 = .ok (.iconst 0, 1) := by decide +kernel
theorem dX7_post_34 : decode cX7_post 34 = .ok (.bipush 9, 2) := by decide +kernel
theorem dX7_post_36 : decode cX7_post 36 = .ok (.invokestatic 41, 3) := by decide +kernel
theorem dX7_post_39 : decode cX7_post 39 = .ok (.ifCond .ne 9, 3) := by decide +kernel
theorem dX7_post_42 : decode cX7_post 42 = .ok (.aload_n 0, 1) := by decide +kernel
theorem dX7_post_43 : decode cX7_post 43 = .ok (.iconst 2, 1) := by decide +kernel
theorem dX7_post_44 : decode cX7_post 44 = .ok (.invokevirtual 51, 3) := by decide +kernel
theorem dX7_post_47 : decode cX7_post 47 = .ok (.ireturn, 1) := by decide +kernel
theorem dX7_post_48 : decode cX7_post 48 = .ok (.aload_n 0, 1) := by decide +kernel
theorem dX7_post_49 : decode cX7_post 49 = .ok (.getfield 48, 3) := by decide +kernel
theorem dX7_post_52 : decode cX7_post 52 = .ok (.bipush 60, 2) := by decide +kernel
theorem dX7_post_54 : decode cX7_post 54 = .ok (.if_icmp .ne 9, 3) := by decide +kernel
theorem dX7_post_57 : decode cX7_post 57 = .ok (.aload_n 0, 1) := by decide +kernel
theorem dX7_post_58 : decode cX7_post 58 = .ok (.iconst 3, 1) := by decide +kernel
theorem dX7_post_59 : decode cX7_post 59 = .ok (.invokevirtual 51, 3) := by decide +kernel
theorem dX7_post_62 : decode cX7_post 62 = .ok (.ireturn, 1) := by decide +kernel
theorem dX7_post_63 : decode cX7_post 63 = .ok (.bipush 11, 2) := by decide +kernel
theorem dX7_post_65 : decode cX7_post 65 = .ok (.newarray .int, 2) := by decide +kernel
theorem dX7_post_67 : decode cX7_post 67 = .ok (.dup, 1) := by decide +kernel
theorem dX7_post_68 : decode cX7_post 68 = .ok (.iconst 0, 1) := by decide +kernel
theorem dX7_post_69 : decode cX7_post 69 = .ok (.iload_n 1, 1) := by decide +kernel
theorem dX7_post_70 : decode cX7_post 70 = .ok (.iastore, 1) := by decide +kernel
theorem dX7_post_71 : decode cX7_post 71 = .ok (.dup, 1) := by decide +kernel
theorem dX7_post_72 : decode cX7_post 72 = .ok (.iconst 1, 1) := by decide +kernel
theorem dX7_post_73 : decode cX7_post 73 = .ok (.iload_n 2, 1) := by decide +kernel
theorem dX7_post_74 : decode cX7_post 74 = .ok (.iastore, 1) := by decide +kernel
theorem dX7_post_75 : decode cX7_post 75 = .ok (.dup, 1) := by decide +kernel
theorem dX7_post_76 : decode cX7_post 76 = .ok (.iconst 2, 1) := by decide +kernel
theorem dX7_post_77 : decode cX7_post 77 = .ok (.iload_n 3, 1) := by decide +kernel
theorem dX7_post_78 : decode cX7_post 78 = .ok (.iastore, 1) := by decide +kernel
theorem dX7_post_79 : decode cX7_post 79 = .ok (.dup, 1) := by decide +kernel
theorem dX7_post_80 : decode cX7_post 80 = .ok (.iconst 3, 1) := by decide +kernel
theorem dX7_post_81 : decode cX7_post 81 = .ok (.iconst 0, 1) := by decide +kernel
theorem dX7_post_82 : decode cX7_post 82 = .ok (.iastore, 1) := by decide +kernel
theorem dX7_post_83 : decode cX7_post 83 = .ok (.dup, 1) := by decide +kernel
theorem dX7_post_84 : decode cX7_post 84 = .ok (.iconst 4, 1) := by decide +kernel
theorem dX7_post_85 : decode cX7_post 85 = .ok (.iload_n 1, 1) := by decide +kernel
theorem dX7_post_86 : decode cX7_post 86 = .ok (.iastore, 1) := by decide +kernel
theorem dX7_post_87 : decode cX7_post 87 = .ok (.dup, 1) := by decide +kernel
theorem dX7_post_88 : decode cX7_post 88 = .ok (.iconst 5, 1) := by decide +kernel
theorem dX7_post_89 : decode cX7_post 89 = .ok (.iconst (-1), 1) := by decide +kernel
theorem dX7_post_90 : decode cX7_post 90 = .ok (.iastore, 1) := by decide +kernel
theorem dX7_post_91 : decode cX7_post 91 = .ok (.dup, 1) := by decide +kernel
theorem dX7_post_92 : decode cX7_post 92 = .ok (.bipush 6, 2) := by decide +kernel
theorem dX7_post_94 : decode cX7_post 94 = .ok (.iconst 0, 1) := by decide +kernel
theorem dX7_post_95 : decode cX7_post 95 = .ok (.iastore, 1) := by decide +kernel
theorem dX7_post_96 : decode cX7_post 96 = .ok (.dup, 1) := by decide +kernel
theorem dX7_post_97 : decode cX7_post 97 = .ok (.bipush 7, 2) := by decide +kernel
theorem dX7_post_99 : decode cX7_post 99 = .ok (.iconst 0, 1) := by decide +kernel
theorem dX7_post_100 : decode cX7_post 100 = .ok (.iastore, 1) := by decide +kernel
theorem dX7_post_101 : decode cX7_post 101 = .ok (.dup, 1) := by decide +kernel
theorem dX7_post_102 : decode cX7_post 102 = .ok (.bipush 8, 2) := by decide +kernel
theorem dX7_post_104 : decode cX7_post 104 = .ok (.aload_n 0, 1) := by decide +kernel
theorem dX7_post_105 : decode cX7_post 105 = .ok (.getfield 25, 3) := by decide +kernel
theorem dX7_post_108 : decode cX7_post 108 = .ok (.iconst 0, 1) := by decide +kernel
theorem dX7_post_109 : decode cX7_post 109 = .ok (.iaload, 1) := by decide +kernel
theorem dX7_post_110 : decode cX7_post 110 = .ok (.iastore, 1) := by decide +kernel
theorem dX7_post_111 : decode cX7_post 111 = .ok (.dup, 1) := by decide +kernel
theorem dX7_post_112 : decode cX7_post 112 = .ok (.bipush 9, 2) := by decide +kernel
theorem dX7_post_114 : decode cX7_post 114 = .ok (.iconst (-1), 1) := by decide +kernel
theorem dX7_post_115 : decode cX7_post 115 = .ok (.iastore, 1) := by decide +kernel
theorem dX7_post_116 : decode cX7_post 116 = .ok (.dup, 1) := by decide +kernel
theorem dX7_post_117 : decode cX7_post 117 = .ok (.bipush 10, 2) := by decide +kernel
theorem dX7_post_119 : decode cX7_post 119 = .ok (.iconst 0, 1) := by decide +kernel
theorem dX7_post_120 : decode cX7_post 120 = .ok (.iastore, 1) := by decide +kernel
theorem dX7_post_121 : decode cX7_post 121 = .ok (.astore 4, 2) := by decide +kernel
theorem dX7_post_123 : decode cX7_post 123 = .ok (.aload 4, 2) := by decide +kernel
theorem dX7_post_125 : decode cX7_post 125 = .ok (.iconst 0, 1) := by decide +kernel
theorem dX7_post_126 : decode cX7_post 126 = .ok (.aload_n 0, 1) := by decide +kernel
theorem dX7_post_127 : decode cX7_post 127 = .ok (.getfield 22, 3) := by decide +kernel
theorem dX7_post_130 : decode cX7_post 130 = .ok (.bipush 11, 2) := by decide +kernel
theorem dX7_post_132 : decode cX7_post 132 = .ok (.aload_n 0, 1) := by decide +kernel
theorem dX7_post_133 : decode cX7_post 133 = .ok (.getfield 48, 3) := by decide +kernel
theorem dX7_post_136 : decode cX7_post 136 = .ok (.imul, 1) := by decide +kernel
theorem dX7_post_137 : decode cX7_post 137 = .ok (.bipush 11, 2) := by decide +kernel
theorem dX7_post_139 : decode cX7_post 139 = .ok (.invokestatic 67, 3) := by decide +kernel
theorem dX7_post_142 : decode cX7_post 142 = .ok (.aload_n 0, 1) := by decide +kernel
theorem dX7_post_143 : decode cX7_post 143 = .ok (.dup, 1) := by decide +kernel
theorem dX7_post_144 : decode cX7_post 144 = .ok (.getfield 48, 3) := by decide +kernel
theorem dX7_post_147 : decode cX7_post 147 = .ok (.iconst 1, 1) := by decide +kernel
theorem dX7_post_148 : decode cX7_post 148 = .ok (.iadd, 1) := by decide +kernel
theorem dX7_post_149 : decode cX7_post 149 = .ok (.putfield 48, 3) := by decide +kernel
theorem dX7_post_152 : decode cX7_post 152 = .ok (.aload_n 0, 1) := by decide +kernel
theorem dX7_post_153 : decode cX7_post 153 = .ok (.getfield 48, 3) := by decide +kernel
theorem dX7_post_156 : decode cX7_post 156 = .ok (.iconst 1, 1) := by decide +kernel
theorem dX7_post_157 : decode cX7_post 157 = .ok (.isub, 1) := by decide +kernel
theorem dX7_post_158 : decode cX7_post 158 = .ok (.ireturn, 1) := by decide +kernel
set_option maxRecDepth 20000 in
theorem ggX7_handOn_X7_has : GoodIn wsX7_handOn wsX7_has := goodIn_r _ [7] (by decide +kernel) (by decide +kernel)
set_option maxRecDepth 20000 in
theorem gX7_handOn_X7_has : GoodIn wsX7_handOn (va_wsS RX7 121 yX7_has wsX7_has) := goodIn_app (goodIn_of _ (by decide +kernel)) ggX7_handOn_X7_has
theorem dX7_handOn_0 : decode cX7_handOn 0 = .ok (.iload_n 1, 1) := by decide +kernel
theorem dX7_handOn_1 : decode cX7_handOn 1 = .ok (.istore_n 2, 1) := by decide +kernel
theorem dX7_handOn_2 : decode cX7_handOn 2 = .ok (.iconst 0, 1) := by decide +kernel
theorem dX7_handOn_3 : decode cX7_handOn 3 = .ok (.istore_n 3, 1) := by decide +kernel
theorem dX7_handOn_4 : decode cX7_handOn 4 = .ok (.iload_n 3, 1) := by decide +kernel
theorem dX7_handOn_5 : decode cX7_handOn 5 = .ok (.aload_n 0, 1) := by decide +kernel
theorem dX7_handOn_6 : decode cX7_handOn 6 = .ok (.getfield 38, 3) := by decide +kernel
theorem dX7_handOn_9 : decode cX7_handOn 9 = .ok (.if_icmp .ge 44, 3) := by decide +kernel
theorem dX7_handOn_12 : decode cX7_handOn 12 = .ok (.iload_n 1, 1) := by decide +kernel
theorem dX7_handOn_13 : decode cX7_handOn 13 = .ok (.iload_n 3, 1) := by decide +kernel
theorem dX7_handOn_14 : decode cX7_handOn 14 = .ok (.invokestatic 121, 3) := by decide +kernel
theorem dX7_handOn_17 : decode cX7_handOn 17 = .ok (.ifCond .eq 30, 3) := by decide +kernel
theorem dX7_handOn_20 : decode cX7_handOn 20 = .ok (.aload_n 0, 1) := by decide +kernel
theorem dX7_handOn_21 : decode cX7_handOn 21 = .ok (.getfield 64, 3) := by decide +kernel
theorem dX7_handOn_24 : decode cX7_handOn 24 = .ok (.iload_n 3, 1) := by decide +kernel
theorem dX7_handOn_25 : decode cX7_handOn 25 = .ok (.invokestatic 121, 3) := by decide +kernel
theorem dX7_handOn_28 : decode cX7_handOn 28 = .ok (.ifCond .ne 19, 3) := by decide +kernel
theorem dX7_handOn_31 : decode cX7_handOn 31 = .ok (.iload_n 2, 1) := by decide +kernel
theorem dX7_handOn_32 : decode cX7_handOn 32 = .ok (.aload_n 0, 1) := by decide +kernel
theorem dX7_handOn_33 : decode cX7_handOn 33 = .ok (.getfield 13, 3) := by decide +kernel
theorem dX7_handOn_36 : decode cX7_handOn 36 = .ok (.iload_n 3, 1) := by decide +kernel
theorem dX7_handOn_37 : decode cX7_handOn 37 = .ok (.iaload, 1) := by decide +kernel
theorem dX7_handOn_38 : decode cX7_handOn 38 = .ok (.aload_n 0, 1) := by decide +kernel
theorem dX7_handOn_39 : decode cX7_handOn 39 = .ok (.getfield 64, 3) := by decide +kernel
theorem dX7_handOn_42 : decode cX7_handOn 42 = .ok (.iconst (-1), 1) := by decide +kernel
theorem dX7_handOn_43 : decode cX7_handOn 43 = .ok (.ixor, 1) := by decide +kernel
theorem dX7_handOn_44 : decode cX7_handOn 44 = .ok (.iand, 1) := by decide +kernel
theorem dX7_handOn_45 : decode cX7_handOn 45 = .ok (.ior, 1) := by decide +kernel
theorem dX7_handOn_46 : decode cX7_handOn 46 = .ok (.istore_n 2, 1) := by decide +kernel
theorem dX7_handOn_47 : decode cX7_handOn 47 = .ok (.iinc 3 1, 3) := by decide +kernel
theorem dX7_handOn_50 : decode cX7_handOn 50 = .ok (.goto (-46), 3) := by decide +kernel
theorem dX7_handOn_53 : decode cX7_handOn 53 = .ok (.iload_n 2, 1) := by decide +kernel
theorem dX7_handOn_54 : decode cX7_handOn 54 = .ok (.ireturn, 1) := by decide +kernel
set_option maxRecDepth 20000 in
theorem ggX7_recall_X7_isLetter : GoodIn wsX7_recall wsX7_isLetter := goodIn_r _ [7, 8, 9, 10, 6, 11, 41, 42, 43, 44, 45, 46, 47, 48, 49, 50, 51, 52, 53, 54] (by decide +kernel) (by decide +kernel)
set_option maxRecDepth 20000 in
theorem gX7_recall_X7_isLetter : GoodIn wsX7_recall (wsV RX7 125 RX7 yX7_isLetter wsX7_isLetter) := goodIn_app (goodIn_of _ (by decide +kernel)) ggX7_recall_X7_isLetter
set_option maxRecDepth 20000 in
theorem ggX7_recall_X7_fail : GoodIn wsX7_recall wsX7_fail := goodIn_r _ [15, 1, 41, 42, 43, 44, 45, 46, 47, 48, 49, 50, 51, 52, 53, 54] (by decide +kernel) (by decide +kernel)
set_option maxRecDepth 20000 in
theorem gX7_recall_X7_fail : GoodIn wsX7_recall (wsV RX7 51 RX7 yX7_fail wsX7_fail) := goodIn_app (goodIn_of _ (by decide +kernel)) ggX7_recall_X7_fail
set_option maxRecDepth 20000 in
theorem ggX7_recall_X7_le : GoodIn wsX7_recall wsX7_le := goodIn_r _ [19, 20, 41, 42, 43, 44, 45, 46, 47, 48, 49, 50, 51, 52, 53, 54] (by decide +kernel) (by decide +kernel)
set_option maxRecDepth 20000 in
theorem gX7_recall_X7_le : GoodIn wsX7_recall (wsV RX7 87 RX7 yX7_le wsX7_le) := goodIn_app (goodIn_of _ (by decide +kernel)) ggX7_recall_X7_le
set_option maxRecDepth 20000 in
theorem ggX7_recall_X7_setLe : GoodIn wsX7_recall wsX7_setLe := goodIn_r _ [24, 20, 41, 42, 43, 44, 45, 46, 47, 48, 49, 50, 51, 52, 53, 54] (by decide +kernel) (by decide +kernel)
set_option maxRecDepth 20000 in
theorem gX7_recall_X7_setLe : GoodIn wsX7_recall (wsV RX7 128 RX7 yX7_setLe wsX7_setLe) := goodIn_app (goodIn_of _ (by decide +kernel)) ggX7_recall_X7_setLe
set_option maxRecDepth 20000 in
theorem ggX7_recall_X7_handOn : GoodIn wsX7_recall wsX7_handOn := goodIn_r _ [28, 2, 29, 30, 31, 32, 6, 33, 41, 42, 43, 44, 45, 46, 47, 48, 49, 50, 51, 52, 53, 54] (by decide +kernel) (by decide +kernel)
set_option maxRecDepth 20000 in
theorem gX7_recall_X7_handOn : GoodIn wsX7_recall (wsV RX7 131 RX7 yX7_handOn wsX7_handOn) := goodIn_app (goodIn_of _ (by decide +kernel)) ggX7_recall_X7_handOn
set_option maxRecDepth 20000 in
theorem ggX7_recall_J6_bitCount_0f7a4 : GoodIn wsX7_recall wsJ6_bitCount_0f7a4 := goodIn_r _ [37, 38, 39, 40] (by decide +kernel) (by decide +kernel)
set_option maxRecDepth 20000 in
theorem gX7_recall_J6_bitCount_0f7a4 : GoodIn wsX7_recall (va_wsS RX7 59 yJ6_bitCount_0f7a4 wsJ6_bitCount_0f7a4) := goodIn_app (goodIn_of _ (by decide +kernel)) ggX7_recall_J6_bitCount_0f7a4
theorem dX7_recall_0 : decode cX7_recall 0 = .ok (.aload_n 0, 1) := by decide +kernel
theorem dX7_recall_1 : decode cX7_recall 1 = .ok (.iconst 0, 1) := by decide +kernel
theorem dX7_recall_2 : decode cX7_recall 2 = .ok (.putfield 34, 3) := by decide +kernel
theorem dX7_recall_5 : decode cX7_recall 5 = .ok (.aload_n 0, 1) := by decide +kernel
theorem dX7_recall_6 : decode cX7_recall 6 = .ok (.iload_n 1, 1) := by decide +kernel
theorem dX7_recall_7 : decode cX7_recall 7 = .ok (.invokevirtual 125, 3) := by decide +kernel
theorem dX7_recall_10 : decode cX7_recall 10 = .ok (.ifCond .ne 9, 3) := by decide +kernel
theorem dX7_recall_13 : decode cX7_recall 13 = .ok (.aload_n 0, 1) := by decide +kernel
theorem dX7_recall_14 : decode cX7_recall 14 = .ok (.iconst 1, 1) := by decide +kernel
theorem dX7_recall_15 : decode cX7_recall 15 = .ok (.invokevirtual 51, 3) := by decide +kernel
theorem dX7_recall_18 : decode cX7_recall 18 = .ok (.ireturn, 1) := by decide +kernel
theorem dX7_recall_19 : decode cX7_recall 19 = .ok (.aload_n 0, 1) := by decide +kernel
theorem dX7_recall_20 : decode cX7_recall 20 = .ok (.iload_n 1, 1) := by decide +kernel
theorem dX7_recall_21 : decode cX7_recall 21 = .ok (.bipush 6, 2) := by decide +kernel
theorem dX7_recall_23 : decode cX7_recall 23 = .ok (.invokevirtual 87, 3) := by decide +kernel
theorem dX7_recall_26 : decode cX7_recall 26 = .ok (.iconst 1, 1) := by decide +kernel
theorem dX7_recall_27 : decode cX7_recall 27 = .ok (.if_icmp .eq 13, 3) := by decide +kernel
theorem dX7_recall_30 : decode cX7_recall 30 = .ok (.aload_n 0, 1) := by decide +kernel
theorem dX7_recall_31 : decode cX7_recall 31 = .ok (.iload_n 1, 1) := by decide +kernel
theorem dX7_recall_32 : decode cX7_recall 32 = .ok (.iconst 3, 1) := by decide +kernel
theorem dX7_recall_33 : decode cX7_recall 33 = .ok (.invokevirtual 87, 3) := by decide +kernel
theorem dX7_recall_36 : decode cX7_recall 36 = .ok (.iconst 1, 1) := by decide +kernel
theorem dX7_recall_37 : decode cX7_recall 37 = .ok (.if_icmp .le 9, 3) := by decide +kernel
theorem dX7_recall_40 : decode cX7_recall 40 = .ok (.aload_n 0, 1) := by decide +kernel
theorem dX7_recall_41 : decode cX7_recall 41 = .ok (.iconst 2, 1) := by decide +kernel
theorem dX7_recall_42 : decode cX7_recall 42 = .ok (.invokevirtual 51, 3) := by decide +kernel
theorem dX7_recall_45 : decode cX7_recall 45 = .ok (.ireturn, 1) := by decide +kernel
theorem dX7_recall_46 : decode cX7_recall 46 = .ok (.aload_n 0, 1) := by decide +kernel
theorem dX7_recall_47 : decode cX7_recall 47 = .ok (.iload_n 1, 1) := by decide +kernel
theorem dX7_recall_48 : decode cX7_recall 48 = .ok (.bipush 6, 2) := by decide +kernel
theorem dX7_recall_50 : decode cX7_recall 50 = .ok (.iconst 1, 1) := by decide +kernel
theorem dX7_recall_51 : decode cX7_recall 51 = .ok (.invokevirtual 128, 3) := by decide +kernel
theorem dX7_recall_54 : decode cX7_recall 54 = .ok (.aload_n 0, 1) := by decide +kernel
theorem dX7_recall_55 : decode cX7_recall 55 = .ok (.iload_n 1, 1) := by decide +kernel
theorem dX7_recall_56 : decode cX7_recall 56 = .ok (.bipush 10, 2) := by decide +kernel
theorem dX7_recall_58 : decode cX7_recall 58 = .ok (.iconst 1, 1) := by decide +kernel
theorem dX7_recall_59 : decode cX7_recall 59 = .ok (.aload_n 0, 1) := by decide +kernel
theorem dX7_recall_60 : decode cX7_recall 60 = .ok (.iload_n 1, 1) := by decide +kernel
theorem dX7_recall_61 : decode cX7_recall 61 = .ok (.iconst 0, 1) := by decide +kernel
theorem dX7_recall_62 : decode cX7_recall 62 = .ok (.invokevirtual 87, 3) := by decide +kernel
theorem dX7_recall_65 : decode cX7_recall 65 = .ok (.ishl, 1) := by decide +kernel
theorem dX7_recall_66 : decode cX7_recall 66 = .ok (.invokevirtual 128, 3) := by decide +kernel
theorem dX7_recall_69 : decode cX7_recall 69 = .ok (.aload_n 0, 1) := by decide +kernel
theorem dX7_recall_70 : decode cX7_recall 70 = .ok (.iload_n 1, 1) := by decide +kernel
theorem dX7_recall_71 : decode cX7_recall 71 = .ok (.bipush 10, 2) := by decide +kernel
theorem dX7_recall_73 : decode cX7_recall 73 = .ok (.invokevirtual 87, 3) := by decide +kernel
theorem dX7_recall_76 : decode cX7_recall 76 = .ok (.istore_n 2, 1) := by decide +kernel
theorem dX7_recall_77 : decode cX7_recall 77 = .ok (.iconst 0, 1) := by decide +kernel
theorem dX7_recall_78 : decode cX7_recall 78 = .ok (.istore_n 3, 1) := by decide +kernel
theorem dX7_recall_79 : decode cX7_recall 79 = .ok (.iload_n 3, 1) := by decide +kernel
theorem dX7_recall_80 : decode cX7_recall 80 = .ok (.aload_n 0, 1) := by decide +kernel
theorem dX7_recall_81 : decode cX7_recall 81 = .ok (.getfield 38, 3) := by decide +kernel
theorem dX7_recall_84 : decode cX7_recall 84 = .ok (.if_icmp .ge 15, 3) := by decide +kernel
theorem dX7_recall_87 : decode cX7_recall 87 = .ok (.aload_n 0, 1) := by decide +kernel
theorem dX7_recall_88 : decode cX7_recall 88 = .ok (.iload_n 2, 1) := by decide +kernel
theorem dX7_recall_89 : decode cX7_recall 89 = .ok (.invokevirtual 131, 3) := by decide +kernel
theorem dX7_recall_92 : decode cX7_recall 92 = .ok (.istore_n 2, 1) := by decide +kernel
theorem dX7_recall_93 : decode cX7_recall 93 = .ok (.iinc 3 1, 3) := by decide +kernel
theorem dX7_recall_96 : decode cX7_recall 96 = .ok (.goto (-17), 3) := by decide +kernel
theorem dX7_recall_99 : decode cX7_recall 99 = .ok (.iload_n 2, 1) := by decide +kernel
theorem dX7_recall_100 : decode cX7_recall 100 = .ok (.invokestatic 59, 3) := by decide +kernel
theorem dX7_recall_103 : decode cX7_recall 103 = .ok (.iconst 1, 1) := by decide +kernel
theorem dX7_recall_104 : decode cX7_recall 104 = .ok (.isub, 1) := by decide +kernel
theorem dX7_recall_105 : decode cX7_recall 105 = .ok (.ireturn, 1) := by decide +kernel
set_option maxRecDepth 20000 in
theorem ggX7_letterTold_X7_le : GoodIn wsX7_letterTold wsX7_le := goodIn_r _ [5, 6, 14, 15, 16, 17, 18, 19, 20, 21, 22, 23, 24, 25, 26, 27] (by decide +kernel) (by decide +kernel)
set_option maxRecDepth 20000 in
theorem gX7_letterTold_X7_le : GoodIn wsX7_letterTold (wsV RX7 87 RX7 yX7_le wsX7_le) := goodIn_app (goodIn_of _ (by decide +kernel)) ggX7_letterTold_X7_le
set_option maxRecDepth 20000 in
theorem ggX7_letterTold_J6_bitCount_0f7a4 : GoodIn wsX7_letterTold wsJ6_bitCount_0f7a4 := goodIn_r _ [10, 11, 12, 13] (by decide +kernel) (by decide +kernel)
set_option maxRecDepth 20000 in
theorem gX7_letterTold_J6_bitCount_0f7a4 : GoodIn wsX7_letterTold (va_wsS RX7 59 yJ6_bitCount_0f7a4 wsJ6_bitCount_0f7a4) := goodIn_app (goodIn_of _ (by decide +kernel)) ggX7_letterTold_J6_bitCount_0f7a4
theorem dX7_letterTold_0 : decode cX7_letterTold 0 = .ok (.iload_n 2, 1) := by decide +kernel
theorem dX7_letterTold_1 : decode cX7_letterTold 1 = .ok (.bipush 10, 2) := by decide +kernel
theorem dX7_letterTold_3 : decode cX7_letterTold 3 = .ok (.if_icmp .ne 16, 3) := by decide +kernel
theorem dX7_letterTold_6 : decode cX7_letterTold 6 = .ok (.aload_n 0, 1) := by decide +kernel
theorem dX7_letterTold_7 : decode cX7_letterTold 7 = .ok (.iload_n 1, 1) := by decide +kernel
theorem dX7_letterTold_8 : decode cX7_letterTold 8 = .ok (.bipush 10, 2) := by decide +kernel
theorem dX7_letterTold_10 : decode cX7_letterTold 10 = .ok (.invokevirtual 87, 3) := by decide +kernel
theorem dX7_letterTold_13 : decode cX7_letterTold 13 = .ok (.invokestatic 59, 3) := by decide +kernel
theorem dX7_letterTold_16 : decode cX7_letterTold 16 = .ok (.goto 9, 3) := by decide +kernel
theorem dX7_letterTold_19 : decode cX7_letterTold 19 = .ok (.aload_n 0, 1) := by decide +kernel
theorem dX7_letterTold_20 : decode cX7_letterTold 20 = .ok (.iload_n 1, 1) := by decide +kernel
theorem dX7_letterTold_21 : decode cX7_letterTold 21 = .ok (.iload_n 2, 1) := by decide +kernel
theorem dX7_letterTold_22 : decode cX7_letterTold 22 = .ok (.invokevirtual 87, 3) := by decide +kernel
theorem dX7_letterTold_25 : decode cX7_letterTold 25 = .ok (.ireturn, 1) := by decide +kernel
set_option maxRecDepth 20000 in
theorem ggX7_letter_X7_isLetter : GoodIn wsX7_letter wsX7_isLetter := goodIn_r _ [6, 7, 8, 9, 5, 10, 31, 32, 33, 34, 35, 36, 37, 38, 39, 40, 41, 42, 43, 44] (by decide +kernel) (by decide +kernel)
set_option maxRecDepth 20000 in
theorem gX7_letter_X7_isLetter : GoodIn wsX7_letter (wsV RX7 125 RX7 yX7_isLetter wsX7_isLetter) := goodIn_app (goodIn_of _ (by decide +kernel)) ggX7_letter_X7_isLetter
set_option maxRecDepth 20000 in
theorem ggX7_letter_X7_isIn : GoodIn wsX7_letter wsX7_isIn := goodIn_r _ [10] (by decide +kernel) (by decide +kernel)
set_option maxRecDepth 20000 in
theorem gX7_letter_X7_isIn : GoodIn wsX7_letter (va_wsS RX7 41 yX7_isIn wsX7_isIn) := goodIn_app (goodIn_of _ (by decide +kernel)) ggX7_letter_X7_isIn
set_option maxRecDepth 20000 in
theorem ggX7_letter_X7_letterTold : GoodIn wsX7_letter wsX7_letterTold := goodIn_r _ [14, 15, 16, 17, 5, 18, 19, 20, 21, 22, 23, 24, 25, 26, 31, 32, 33, 34, 35, 36, 37, 38, 39, 40, 41, 42, 43, 44] (by decide +kernel) (by decide +kernel)
set_option maxRecDepth 20000 in
theorem gX7_letter_X7_letterTold : GoodIn wsX7_letter (wsV RX7 134 RX7 yX7_letterTold wsX7_letterTold) := goodIn_app (goodIn_of _ (by decide +kernel)) ggX7_letter_X7_letterTold
set_option maxRecDepth 20000 in
theorem ggX7_letter_X7_fail : GoodIn wsX7_letter wsX7_fail := goodIn_r _ [30, 1, 31, 32, 33, 34, 35, 36, 37, 38, 39, 40, 41, 42, 43, 44] (by decide +kernel) (by decide +kernel)
set_option maxRecDepth 20000 in
theorem gX7_letter_X7_fail : GoodIn wsX7_letter (wsV RX7 51 RX7 yX7_fail wsX7_fail) := goodIn_app (goodIn_of _ (by decide +kernel)) ggX7_letter_X7_fail
theorem dX7_letter_0 : decode cX7_letter 0 = .ok (.aload_n 0, 1) := by decide +kernel
theorem dX7_letter_1 : decode cX7_letter 1 = .ok (.iconst 0, 1) := by decide +kernel
theorem dX7_letter_2 : decode cX7_letter 2 = .ok (.putfield 34, 3) := by decide +kernel
theorem dX7_letter_5 : decode cX7_letter 5 = .ok (.aload_n 0, 1) := by decide +kernel
theorem dX7_letter_6 : decode cX7_letter 6 = .ok (.iload_n 1, 1) := by decide +kernel
theorem dX7_letter_7 : decode cX7_letter 7 = .ok (.invokevirtual 125, 3) := by decide +kernel
theorem dX7_letter_10 : decode cX7_letter 10 = .ok (.ifCond .eq 22, 3) := by decide +kernel
theorem dX7_letter_13 : decode cX7_letter 13 = .ok (.iload_n 2, 1) := by decide +kernel
theorem dX7_letter_14 : decode cX7_letter 14 = .ok (.iconst 0, 1) := by decide +kernel
theorem dX7_letter_15 : decode cX7_letter 15 = .ok (.bipush 10, 2) := by decide +kernel
theorem dX7_letter_17 : decode cX7_letter 17 = .ok (.invokestatic 41, 3) := by decide +kernel
theorem dX7_letter_20 : decode cX7_letter 20 = .ok (.ifCond .eq 12, 3) := by decide +kernel
theorem dX7_letter_23 : decode cX7_letter 23 = .ok (.aload_n 0, 1) := by decide +kernel
theorem dX7_letter_24 : decode cX7_letter 24 = .ok (.iload_n 1, 1) := by decide +kernel
theorem dX7_letter_25 : decode cX7_letter 25 = .ok (.iload_n 2, 1) := by decide +kernel
theorem dX7_letter_26 : decode cX7_letter 26 = .ok (.invokevirtual 134, 3) := by decide +kernel
theorem dX7_letter_29 : decode cX7_letter 29 = .ok (.goto 8, 3) := by decide +kernel
theorem dX7_letter_32 : decode cX7_letter 32 = .ok (.aload_n 0, 1) := by decide +kernel
theorem dX7_letter_33 : decode cX7_letter 33 = .ok (.iconst 1, 1) := by decide +kernel
theorem dX7_letter_34 : decode cX7_letter 34 = .ok (.invokevirtual 51, 3) := by decide +kernel
theorem dX7_letter_37 : decode cX7_letter 37 = .ok (.ireturn, 1) := by decide +kernel
set_option maxRecDepth 20000 in
theorem ggX7_reckon_X7_mulesOn : GoodIn wsX7_reckon wsX7_mulesOn := goodIn_r _ [14, 15, 16, 17, 18, 13, 19, 20, 38, 39, 40, 41, 42, 43, 44, 45, 46, 47, 48, 49, 50, 51] (by decide +kernel) (by decide +kernel)
set_option maxRecDepth 20000 in
theorem gX7_reckon_X7_mulesOn : GoodIn wsX7_reckon (wsV RX7 111 RX7 yX7_mulesOn wsX7_mulesOn) := goodIn_app (goodIn_of _ (by decide +kernel)) ggX7_reckon_X7_mulesOn
set_option maxRecDepth 20000 in
theorem ggX7_reckon_X7_ro : GoodIn wsX7_reckon wsX7_ro := goodIn_r _ [24, 25, 38, 39, 40, 41, 42, 43, 44, 45, 46, 47, 48, 49, 50, 51] (by decide +kernel) (by decide +kernel)
set_option maxRecDepth 20000 in
theorem gX7_reckon_X7_ro : GoodIn wsX7_reckon (wsV RX7 79 RX7 yX7_ro wsX7_ro) := goodIn_app (goodIn_of _ (by decide +kernel)) ggX7_reckon_X7_ro
set_option maxRecDepth 20000 in
theorem ggX7_reckon_X7_hoursFrom : GoodIn wsX7_reckon wsX7_hoursFrom := goodIn_r _ [29, 30, 31, 32, 7, 33, 21, 22, 23, 13, 24, 25, 34, 35, 36, 37, 38, 39, 40, 41, 42, 43, 44, 45, 46, 47, 48, 49, 50, 51] (by decide +kernel) (by decide +kernel)
set_option maxRecDepth 20000 in
theorem gX7_reckon_X7_hoursFrom : GoodIn wsX7_reckon (wsV RX7 108 RX7 yX7_hoursFrom wsX7_hoursFrom) := goodIn_app (goodIn_of _ (by decide +kernel)) ggX7_reckon_X7_hoursFrom
theorem dX7_reckon_0 : decode cX7_reckon 0 = .ok (.iconst 0, 1) := by decide +kernel
theorem dX7_reckon_1 : decode cX7_reckon 1 = .ok (.istore_n 1, 1) := by decide +kernel
theorem dX7_reckon_2 : decode cX7_reckon 2 = .ok (.iload_n 1, 1) := by decide +kernel
theorem dX7_reckon_3 : decode cX7_reckon 3 = .ok (.bipush 100, 2) := by decide +kernel
theorem dX7_reckon_5 : decode cX7_reckon 5 = .ok (.if_icmp .ge 39, 3) := by decide +kernel
theorem dX7_reckon_8 : decode cX7_reckon 8 = .ok (.aload_n 0, 1) := by decide +kernel
theorem dX7_reckon_9 : decode cX7_reckon 9 = .ok (.getfield 28, 3) := by decide +kernel
theorem dX7_reckon_12 : decode cX7_reckon 12 = .ok (.iload_n 1, 1) := by decide +kernel
theorem dX7_reckon_13 : decode cX7_reckon 13 = .ok (.iload_n 1, 1) := by decide +kernel
theorem dX7_reckon_14 : decode cX7_reckon 14 = .ok (.bipush 10, 2) := by decide +kernel
theorem dX7_reckon_16 : decode cX7_reckon 16 = .ok (.idiv, 1) := by decide +kernel
theorem dX7_reckon_17 : decode cX7_reckon 17 = .ok (.iload_n 1, 1) := by decide +kernel
theorem dX7_reckon_18 : decode cX7_reckon 18 = .ok (.bipush 10, 2) := by decide +kernel
theorem dX7_reckon_20 : decode cX7_reckon 20 = .ok (.irem, 1) := by decide +kernel
theorem dX7_reckon_21 : decode cX7_reckon 21 = .ok (.if_icmp .ne 7, 3) := by decide +kernel
theorem dX7_reckon_24 : decode cX7_reckon 24 = .ok (.iconst 0, 1) := by decide +kernel
theorem dX7_reckon_25 : decode cX7_reckon 25 = .ok (.goto 5, 3) := by decide +kernel
theorem dX7_reckon_28 : decode cX7_reckon 28 = .ok (.ldc 137, 2) := by decide +kernel
theorem dX7_reckon_30 : decode cX7_reckon 30 = .ok (.iastore, 1) := by decide +kernel
theorem dX7_reckon_31 : decode cX7_reckon 31 = .ok (.aload_n 0, 1) := by decide +kernel
theorem dX7_reckon_32 : decode cX7_reckon 32 = .ok (.getfield 31, 3) := by decide +kernel
theorem dX7_reckon_35 : decode cX7_reckon 35 = .ok (.iload_n 1, 1) := by decide +kernel
theorem dX7_reckon_36 : decode cX7_reckon 36 = .ok (.iconst (-1), 1) := by decide +kernel
theorem dX7_reckon_37 : decode cX7_reckon 37 = .ok (.iastore, 1) := by decide +kernel
theorem dX7_reckon_38 : decode cX7_reckon 38 = .ok (.iinc 1 1, 3) := by decide +kernel
theorem dX7_reckon_41 : decode cX7_reckon 41 = .ok (.goto (-39), 3) := by decide +kernel
theorem dX7_reckon_44 : decode cX7_reckon 44 = .ok (.iconst 0, 1) := by decide +kernel
theorem dX7_reckon_45 : decode cX7_reckon 45 = .ok (.istore_n 1, 1) := by decide +kernel
theorem dX7_reckon_46 : decode cX7_reckon 46 = .ok (.iload_n 1, 1) := by decide +kernel
theorem dX7_reckon_47 : decode cX7_reckon 47 = .ok (.aload_n 0, 1) := by decide +kernel
theorem dX7_reckon_48 : decode cX7_reckon 48 = .ok (.getfield 45, 3) := by decide +kernel
theorem dX7_reckon_51 : decode cX7_reckon 51 = .ok (.if_icmp .ge 79, 3) := by decide +kernel
theorem dX7_reckon_54 : decode cX7_reckon 54 = .ok (.aload_n 0, 1) := by decide +kernel
theorem dX7_reckon_55 : decode cX7_reckon 55 = .ok (.iload_n 1, 1) := by decide +kernel
theorem dX7_reckon_56 : decode cX7_reckon 56 = .ok (.iconst 0, 1) := by decide +kernel
theorem dX7_reckon_57 : decode cX7_reckon 57 = .ok (.invokevirtual 111, 3) := by decide +kernel
theorem dX7_reckon_60 : decode cX7_reckon 60 = .ok (.ifCond .ne 6, 3) := by decide +kernel
theorem dX7_reckon_63 : decode cX7_reckon 63 = .ok (.goto 61, 3) := by decide +kernel
theorem dX7_reckon_66 : decode cX7_reckon 66 = .ok (.iconst 0, 1) := by decide +kernel
theorem dX7_reckon_67 : decode cX7_reckon 67 = .ok (.istore_n 2, 1) := by decide +kernel
theorem dX7_reckon_68 : decode cX7_reckon 68 = .ok (.iload_n 2, 1) := by decide +kernel
theorem dX7_reckon_69 : decode cX7_reckon 69 = .ok (.iconst 1, 1) := by decide +kernel
theorem dX7_reckon_70 : decode cX7_reckon 70 = .ok (.if_icmp .gt 54, 3) := by decide +kernel
theorem dX7_reckon_73 : decode cX7_reckon 73 = .ok (.bipush 10, 2) := by decide +kernel
theorem dX7_reckon_75 : decode cX7_reckon 75 = .ok (.aload_n 0, 1) := by decide +kernel
theorem dX7_reckon_76 : decode cX7_reckon 76 = .ok (.iload_n 1, 1) := by decide +kernel
theorem dX7_reckon_77 : decode cX7_reckon 77 = .ok (.iload_n 2, 1) := by decide +kernel
theorem dX7_reckon_78 : decode cX7_reckon 78 = .ok (.invokevirtual 79, 3) := by decide +kernel
theorem dX7_reckon_81 : decode cX7_reckon 81 = .ok (.imul, 1) := by decide +kernel
theorem dX7_reckon_82 : decode cX7_reckon 82 = .ok (.aload_n 0, 1) := by decide +kernel
theorem dX7_reckon_83 : decode cX7_reckon 83 = .ok (.iload_n 1, 1) := by decide +kernel
theorem dX7_reckon_84 : decode cX7_reckon 84 = .ok (.iconst 1, 1) := by decide +kernel
theorem dX7_reckon_85 : decode cX7_reckon 85 = .ok (.iload_n 2, 1) := by decide +kernel
theorem dX7_reckon_86 : decode cX7_reckon 86 = .ok (.isub, 1) := by decide +kernel
theorem dX7_reckon_87 : decode cX7_reckon 87 = .ok (.invokevirtual 79, 3) := by decide +kernel
theorem dX7_reckon_90 : decode cX7_reckon 90 = .ok (.iadd, 1) := by decide +kernel
theorem dX7_reckon_91 : decode cX7_reckon 91 = .ok (.istore_n 3, 1) := by decide +kernel
theorem dX7_reckon_92 : decode cX7_reckon 92 = .ok (.aload_n 0, 1) := by decide +kernel
theorem dX7_reckon_93 : decode cX7_reckon 93 = .ok (.getfield 28, 3) := by decide +kernel
theorem dX7_reckon_96 : decode cX7_reckon 96 = .ok (.iload_n 3, 1) := by decide +kernel
theorem dX7_reckon_97 : decode cX7_reckon 97 = .ok (.aload_n 0, 1) := by decide +kernel
theorem dX7_reckon_98 : decode cX7_reckon 98 = .ok (.getfield 28, 3) := by decide +kernel
theorem dX7_reckon_101 : decode cX7_reckon 101 = .ok (.iload_n 3, 1) := by decide +kernel
theorem dX7_reckon_102 : decode cX7_reckon 102 = .ok (.iaload, 1) := by decide +kernel
theorem dX7_reckon_103 : decode cX7_reckon 103 = .ok (.aload_n 0, 1) := by decide +kernel
theorem dX7_reckon_104 : decode cX7_reckon 104 = .ok (.iload_n 1, 1) := by decide +kernel
theorem dX7_reckon_105 : decode cX7_reckon 105 = .ok (.aload_n 0, 1) := by decide +kernel
theorem dX7_reckon_106 : decode cX7_reckon 106 = .ok (.iload_n 1, 1) := by decide +kernel
theorem dX7_reckon_107 : decode cX7_reckon 107 = .ok (.iload_n 2, 1) := by decide +kernel
theorem dX7_reckon_108 : decode cX7_reckon 108 = .ok (.invokevirtual 79, 3) := by decide +kernel
theorem dX7_reckon_111 : decode cX7_reckon 111 = .ok (.invokevirtual 108, 3) := by decide +kernel
theorem dX7_reckon_114 : decode cX7_reckon 114 = .ok (.invokestatic 138, 3) := by decide +kernel
theorem dX7_reckon_117 : decode cX7_reckon 117 = .ok (.iastore, 1) := by decide +kernel
theorem dX7_reckon_118 : decode cX7_reckon 118 = .ok (.iinc 2 1, 3) := by decide +kernel
theorem dX7_reckon_121 : decode cX7_reckon 121 = .ok (.goto (-53), 3) := by decide +kernel
theorem dX7_reckon_124 : decode cX7_reckon 124 = .ok (.iinc 1 1, 3) := by decide +kernel
theorem dX7_reckon_127 : decode cX7_reckon 127 = .ok (.goto (-81), 3) := by decide +kernel
theorem dX7_reckon_130 : decode cX7_reckon 130 = .ok (.iconst 0, 1) := by decide +kernel
theorem dX7_reckon_131 : decode cX7_reckon 131 = .ok (.istore_n 1, 1) := by decide +kernel
theorem dX7_reckon_132 : decode cX7_reckon 132 = .ok (.iload_n 1, 1) := by decide +kernel
theorem dX7_reckon_133 : decode cX7_reckon 133 = .ok (.aload_n 0, 1) := by decide +kernel
theorem dX7_reckon_134 : decode cX7_reckon 134 = .ok (.getfield 38, 3) := by decide +kernel
theorem dX7_reckon_137 : decode cX7_reckon 137 = .ok (.if_icmp .ge 89, 3) := by decide +kernel
theorem dX7_reckon_140 : decode cX7_reckon 140 = .ok (.iconst 0, 1) := by decide +kernel
theorem dX7_reckon_141 : decode cX7_reckon 141 = .ok (.istore_n 2, 1) := by decide +kernel
theorem dX7_reckon_142 : decode cX7_reckon 142 = .ok (.iload_n 2, 1) := by decide +kernel
theorem dX7_reckon_143 : decode cX7_reckon 143 = .ok (.aload_n 0, 1) := by decide +kernel
theorem dX7_reckon_144 : decode cX7_reckon 144 = .ok (.getfield 38, 3) := by decide +kernel
theorem dX7_reckon_147 : decode cX7_reckon 147 = .ok (.if_icmp .ge 73, 3) := by decide +kernel
theorem dX7_reckon_150 : decode cX7_reckon 150 = .ok (.iconst 0, 1) := by decide +kernel
theorem dX7_reckon_151 : decode cX7_reckon 151 = .ok (.istore_n 3, 1) := by decide +kernel
theorem dX7_reckon_152 : decode cX7_reckon 152 = .ok (.iload_n 3, 1) := by decide +kernel
theorem dX7_reckon_153 : decode cX7_reckon 153 = .ok (.aload_n 0, 1) := by decide +kernel
theorem dX7_reckon_154 : decode cX7_reckon 154 = .ok (.getfield 38, 3) := by decide +kernel
theorem dX7_reckon_157 : decode cX7_reckon 157 = .ok (.if_icmp .ge 57, 3) := by decide +kernel
theorem dX7_reckon_160 : decode cX7_reckon 160 = .ok (.aload_n 0, 1) := by decide +kernel
theorem dX7_reckon_161 : decode cX7_reckon 161 = .ok (.getfield 28, 3) := by decide +kernel
theorem dX7_reckon_164 : decode cX7_reckon 164 = .ok (.bipush 10, 2) := by decide +kernel
theorem dX7_reckon_166 : decode cX7_reckon 166 = .ok (.iload_n 2, 1) := by decide +kernel
theorem dX7_reckon_167 : decode cX7_reckon 167 = .ok (.imul, 1) := by decide +kernel
theorem dX7_reckon_168 : decode cX7_reckon 168 = .ok (.iload_n 3, 1) := by decide +kernel
theorem dX7_reckon_169 : decode cX7_reckon 169 = .ok (.iadd, 1) := by decide +kernel
theorem dX7_reckon_170 : decode cX7_reckon 170 = .ok (.aload_n 0, 1) := by decide +kernel
theorem dX7_reckon_171 : decode cX7_reckon 171 = .ok (.getfield 28, 3) := by decide +kernel
theorem dX7_reckon_174 : decode cX7_reckon 174 = .ok (.bipush 10, 2) := by decide +kernel
theorem dX7_reckon_176 : decode cX7_reckon 176 = .ok (.iload_n 2, 1) := by decide +kernel
theorem dX7_reckon_177 : decode cX7_reckon 177 = .ok (.imul, 1) := by decide +kernel
theorem dX7_reckon_178 : decode cX7_reckon 178 = .ok (.iload_n 3, 1) := by decide +kernel
theorem dX7_reckon_179 : decode cX7_reckon 179 = .ok (.iadd, 1) := by decide +kernel
theorem dX7_reckon_180 : decode cX7_reckon 180 = .ok (.iaload, 1) := by decide +kernel
theorem dX7_reckon_181 : decode cX7_reckon 181 = .ok (.aload_n 0, 1) := by decide +kernel
theorem dX7_reckon_182 : decode cX7_reckon 182 = .ok (.getfield 28, 3) := by decide +kernel
theorem dX7_reckon_185 : decode cX7_reckon 185 = .ok (.bipush 10, 2) := by decide +kernel
theorem dX7_reckon_187 : decode cX7_reckon 187 = .ok (.iload_n 2, 1) := by decide +kernel
theorem dX7_reckon_188 : decode cX7_reckon 188 = .ok (.imul, 1) := by decide +kernel
theorem dX7_reckon_189 : decode cX7_reckon 189 = .ok (.iload_n 1, 1) := by decide +kernel
theorem dX7_reckon_190 : decode cX7_reckon 190 = .ok (.iadd, 1) := by decide +kernel
theorem dX7_reckon_191 : decode cX7_reckon 191 = .ok (.iaload, 1) := by decide +kernel
theorem dX7_reckon_192 : decode cX7_reckon 192 = .ok (.aload_n 0, 1) := by decide +kernel
theorem dX7_reckon_193 : decode cX7_reckon 193 = .ok (.getfield 28, 3) := by decide +kernel
theorem dX7_reckon_196 : decode cX7_reckon 196 = .ok (.bipush 10, 2) := by decide +kernel
theorem dX7_reckon_198 : decode cX7_reckon 198 = .ok (.iload_n 1, 1) := by decide +kernel
theorem dX7_reckon_199 : decode cX7_reckon 199 = .ok (.imul, 1) := by decide +kernel
theorem dX7_reckon_200 : decode cX7_reckon 200 = .ok (.iload_n 3, 1) := by decide +kernel
theorem dX7_reckon_201 : decode cX7_reckon 201 = .ok (.iadd, 1) := by decide +kernel
theorem dX7_reckon_202 : decode cX7_reckon 202 = .ok (.iaload, 1) := by decide +kernel
theorem dX7_reckon_203 : decode cX7_reckon 203 = .ok (.iadd, 1) := by decide +kernel
theorem dX7_reckon_204 : decode cX7_reckon 204 = .ok (.invokestatic 138, 3) := by decide +kernel
theorem dX7_reckon_207 : decode cX7_reckon 207 = .ok (.iastore, 1) := by decide +kernel
theorem dX7_reckon_208 : decode cX7_reckon 208 = .ok (.iinc 3 1, 3) := by decide +kernel
theorem dX7_reckon_211 : decode cX7_reckon 211 = .ok (.goto (-59), 3) := by decide +kernel
theorem dX7_reckon_214 : decode cX7_reckon 214 = .ok (.iinc 2 1, 3) := by decide +kernel
theorem dX7_reckon_217 : decode cX7_reckon 217 = .ok (.goto (-75), 3) := by decide +kernel
theorem dX7_reckon_220 : decode cX7_reckon 220 = .ok (.iinc 1 1, 3) := by decide +kernel
theorem dX7_reckon_223 : decode cX7_reckon 223 = .ok (.goto (-91), 3) := by decide +kernel
theorem dX7_reckon_226 : decode cX7_reckon 226 = .ok (.aload_n 0, 1) := by decide +kernel
theorem dX7_reckon_227 : decode cX7_reckon 227 = .ok (.getfield 45, 3) := by decide +kernel
theorem dX7_reckon_230 : decode cX7_reckon 230 = .ok (.iconst 1, 1) := by decide +kernel
theorem dX7_reckon_231 : decode cX7_reckon 231 = .ok (.isub, 1) := by decide +kernel
theorem dX7_reckon_232 : decode cX7_reckon 232 = .ok (.istore_n 1, 1) := by decide +kernel
theorem dX7_reckon_233 : decode cX7_reckon 233 = .ok (.iload_n 1, 1) := by decide +kernel
theorem dX7_reckon_234 : decode cX7_reckon 234 = .ok (.ifCond .lt 130, 3) := by decide +kernel
theorem dX7_reckon_237 : decode cX7_reckon 237 = .ok (.aload_n 0, 1) := by decide +kernel
theorem dX7_reckon_238 : decode cX7_reckon 238 = .ok (.iload_n 1, 1) := by decide +kernel
theorem dX7_reckon_239 : decode cX7_reckon 239 = .ok (.iconst 0, 1) := by decide +kernel
theorem dX7_reckon_240 : decode cX7_reckon 240 = .ok (.invokevirtual 111, 3) := by decide +kernel
theorem dX7_reckon_243 : decode cX7_reckon 243 = .ok (.ifCond .ne 6, 3) := by decide +kernel
theorem dX7_reckon_246 : decode cX7_reckon 246 = .ok (.goto 112, 3) := by decide +kernel
theorem dX7_reckon_249 : decode cX7_reckon 249 = .ok (.iconst 0, 1) := by decide +kernel
theorem dX7_reckon_250 : decode cX7_reckon 250 = .ok (.istore_n 2, 1) := by decide +kernel
theorem dX7_reckon_251 : decode cX7_reckon 251 = .ok (.iload_n 2, 1) := by decide +kernel
theorem dX7_reckon_252 : decode cX7_reckon 252 = .ok (.iconst 1, 1) := by decide +kernel
theorem dX7_reckon_253 : decode cX7_reckon 253 = .ok (.if_icmp .gt 105, 3) := by decide +kernel
theorem dX7_reckon_256 : decode cX7_reckon 256 = .ok (.aload_n 0, 1) := by decide +kernel
theorem dX7_reckon_257 : decode cX7_reckon 257 = .ok (.iload_n 1, 1) := by decide +kernel
theorem dX7_reckon_258 : decode cX7_reckon 258 = .ok (.iload_n 2, 1) := by decide +kernel
theorem dX7_reckon_259 : decode cX7_reckon 259 = .ok (.invokevirtual 79, 3) := by decide +kernel
theorem dX7_reckon_262 : decode cX7_reckon 262 = .ok (.istore_n 3, 1) := by decide +kernel
theorem dX7_reckon_263 : decode cX7_reckon 263 = .ok (.iconst 0, 1) := by decide +kernel
theorem dX7_reckon_264 : decode cX7_reckon 264 = .ok (.istore 4, 2) := by decide +kernel
theorem dX7_reckon_266 : decode cX7_reckon 266 = .ok (.iload 4, 2) := by decide +kernel
theorem dX7_reckon_268 : decode cX7_reckon 268 = .ok (.aload_n 0, 1) := by decide +kernel
theorem dX7_reckon_269 : decode cX7_reckon 269 = .ok (.getfield 38, 3) := by decide +kernel
theorem dX7_reckon_272 : decode cX7_reckon 272 = .ok (.if_icmp .ge 80, 3) := by decide +kernel
theorem dX7_reckon_275 : decode cX7_reckon 275 = .ok (.aload_n 0, 1) := by decide +kernel
theorem dX7_reckon_276 : decode cX7_reckon 276 = .ok (.iload_n 1, 1) := by decide +kernel
theorem dX7_reckon_277 : decode cX7_reckon 277 = .ok (.iload_n 3, 1) := by decide +kernel
theorem dX7_reckon_278 : decode cX7_reckon 278 = .ok (.invokevirtual 108, 3) := by decide +kernel
theorem dX7_reckon_281 : decode cX7_reckon 281 = .ok (.aload_n 0, 1) := by decide +kernel
theorem dX7_reckon_282 : decode cX7_reckon 282 = .ok (.getfield 28, 3) := by decide +kernel
theorem dX7_reckon_285 : decode cX7_reckon 285 = .ok (.bipush 10, 2) := by decide +kernel
theorem dX7_reckon_287 : decode cX7_reckon 287 = .ok (.aload_n 0, 1) := by decide +kernel
theorem dX7_reckon_288 : decode cX7_reckon 288 = .ok (.iload_n 1, 1) := by decide +kernel
theorem dX7_reckon_289 : decode cX7_reckon 289 = .ok (.iconst 1, 1) := by decide +kernel
theorem dX7_reckon_290 : decode cX7_reckon 290 = .ok (.iload_n 2, 1) := by decide +kernel
theorem dX7_reckon_291 : decode cX7_reckon 291 = .ok (.isub, 1) := by decide +kernel
theorem dX7_reckon_292 : decode cX7_reckon 292 = .ok (.invokevirtual 79, 3) := by decide +kernel
theorem dX7_reckon_295 : decode cX7_reckon 295 = .ok (.imul, 1) := by decide +kernel
theorem dX7_reckon_296 : decode cX7_reckon 296 = .ok (.iload 4, 2) := by decide +kernel
theorem dX7_reckon_298 : decode cX7_reckon 298 = .ok (.iadd, 1) := by decide +kernel
theorem dX7_reckon_299 : decode cX7_reckon 299 = .ok (.iaload, 1) := by decide +kernel
theorem dX7_reckon_300 : decode cX7_reckon 300 = .ok (.iadd, 1) := by decide +kernel
theorem dX7_reckon_301 : decode cX7_reckon 301 = .ok (.istore 5, 2) := by decide +kernel
theorem dX7_reckon_303 : decode cX7_reckon 303 = .ok (.iload_n 3, 1) := by decide +kernel
theorem dX7_reckon_304 : decode cX7_reckon 304 = .ok (.iload 4, 2) := by decide +kernel
theorem dX7_reckon_306 : decode cX7_reckon 306 = .ok (.if_icmp .eq 40, 3) := by decide +kernel
theorem dX7_reckon_309 : decode cX7_reckon 309 = .ok (.iload 5, 2) := by decide +kernel
theorem dX7_reckon_311 : decode cX7_reckon 311 = .ok (.ldc 137, 2) := by decide +kernel
theorem dX7_reckon_313 : decode cX7_reckon 313 = .ok (.if_icmp .ge 33, 3) := by decide +kernel
theorem dX7_reckon_316 : decode cX7_reckon 316 = .ok (.iload 5, 2) := by decide +kernel
theorem dX7_reckon_318 : decode cX7_reckon 318 = .ok (.aload_n 0, 1) := by decide +kernel
theorem dX7_reckon_319 : decode cX7_reckon 319 = .ok (.getfield 28, 3) := by decide +kernel
theorem dX7_reckon_322 : decode cX7_reckon 322 = .ok (.bipush 10, 2) := by decide +kernel
theorem dX7_reckon_324 : decode cX7_reckon 324 = .ok (.iload_n 3, 1) := by decide +kernel
theorem dX7_reckon_325 : decode cX7_reckon 325 = .ok (.imul, 1) := by decide +kernel
theorem dX7_reckon_326 : decode cX7_reckon 326 = .ok (.iload 4, 2) := by decide +kernel
theorem dX7_reckon_328 : decode cX7_reckon 328 = .ok (.iadd, 1) := by decide +kernel
theorem dX7_reckon_329 : decode cX7_reckon 329 = .ok (.iaload, 1) := by decide +kernel
theorem dX7_reckon_330 : decode cX7_reckon 330 = .ok (.if_icmp .ne 16, 3) := by decide +kernel
theorem dX7_reckon_333 : decode cX7_reckon 333 = .ok (.aload_n 0, 1) := by decide +kernel
theorem dX7_reckon_334 : decode cX7_reckon 334 = .ok (.getfield 31, 3) := by decide +kernel
theorem dX7_reckon_337 : decode cX7_reckon 337 = .ok (.bipush 10, 2) := by decide +kernel
theorem dX7_reckon_339 : decode cX7_reckon 339 = .ok (.iload_n 3, 1) := by decide +kernel
theorem dX7_reckon_340 : decode cX7_reckon 340 = .ok (.imul, 1) := by decide +kernel
theorem dX7_reckon_341 : decode cX7_reckon 341 = .ok (.iload 4, 2) := by decide +kernel
theorem dX7_reckon_343 : decode cX7_reckon 343 = .ok (.iadd, 1) := by decide +kernel
theorem dX7_reckon_344 : decode cX7_reckon 344 = .ok (.iload_n 1, 1) := by decide +kernel
theorem dX7_reckon_345 : decode cX7_reckon 345 = .ok (.iastore, 1) := by decide +kernel
theorem dX7_reckon_346 : decode cX7_reckon 346 = .ok (.iinc 4 1, 3) := by decide +kernel
theorem dX7_reckon_349 : decode cX7_reckon 349 = .ok (.goto (-83), 3) := by decide +kernel
theorem dX7_reckon_352 : decode cX7_reckon 352 = .ok (.iinc 2 1, 3) := by decide +kernel
theorem dX7_reckon_355 : decode cX7_reckon 355 = .ok (.goto (-104), 3) := by decide +kernel
theorem dX7_reckon_358 : decode cX7_reckon 358 = .ok (.iinc 1 (-1), 3) := by decide +kernel
theorem dX7_reckon_361 : decode cX7_reckon 361 = .ok (.goto (-128), 3) := by decide +kernel
theorem dX7_reckon_364 : decode cX7_reckon 364 = .ok (.return_, 1) := by decide +kernel
theorem dX7_firstRoad_0 : decode cX7_firstRoad 0 = .ok (.aload_n 0, 1) := by decide +kernel
theorem dX7_firstRoad_1 : decode cX7_firstRoad 1 = .ok (.getfield 31, 3) := by decide +kernel
theorem dX7_firstRoad_4 : decode cX7_firstRoad 4 = .ok (.bipush 10, 2) := by decide +kernel
theorem dX7_firstRoad_6 : decode cX7_firstRoad 6 = .ok (.iload_n 1, 1) := by decide +kernel
theorem dX7_firstRoad_7 : decode cX7_firstRoad 7 = .ok (.imul, 1) := by decide +kernel
theorem dX7_firstRoad_8 : decode cX7_firstRoad 8 = .ok (.iload_n 2, 1) := by decide +kernel
theorem dX7_firstRoad_9 : decode cX7_firstRoad 9 = .ok (.iadd, 1) := by decide +kernel
theorem dX7_firstRoad_10 : decode cX7_firstRoad 10 = .ok (.iaload, 1) := by decide +kernel
theorem dX7_firstRoad_11 : decode cX7_firstRoad 11 = .ok (.ireturn, 1) := by decide +kernel
set_option maxRecDepth 20000 in
theorem ggX7_way_X7_isStation : GoodIn wsX7_way wsX7_isStation := goodIn_r _ [8, 9, 10, 11, 7, 12, 58, 59, 60, 61, 62, 63, 64, 65, 66, 67, 68, 69, 70, 71] (by decide +kernel) (by decide +kernel)
set_option maxRecDepth 20000 in
theorem gX7_way_X7_isStation : GoodIn wsX7_way (wsV RX7 55 RX7 yX7_isStation wsX7_isStation) := goodIn_app (goodIn_of _ (by decide +kernel)) ggX7_way_X7_isStation
set_option maxRecDepth 20000 in
theorem ggX7_way_X7_isIn : GoodIn wsX7_way wsX7_isIn := goodIn_r _ [12] (by decide +kernel) (by decide +kernel)
set_option maxRecDepth 20000 in
theorem gX7_way_X7_isIn : GoodIn wsX7_way (va_wsS RX7 41 yX7_isIn wsX7_isIn) := goodIn_app (goodIn_of _ (by decide +kernel)) ggX7_way_X7_isIn
set_option maxRecDepth 20000 in
theorem ggX7_way_X7_fail : GoodIn wsX7_way wsX7_fail := goodIn_r _ [16, 1, 58, 59, 60, 61, 62, 63, 64, 65, 66, 67, 68, 69, 70, 71] (by decide +kernel) (by decide +kernel)
set_option maxRecDepth 20000 in
theorem gX7_way_X7_fail : GoodIn wsX7_way (wsV RX7 51 RX7 yX7_fail wsX7_fail) := goodIn_app (goodIn_of _ (by decide +kernel)) ggX7_way_X7_fail
set_option maxRecDepth 20000 in
theorem ggX7_way_X7_reckon : GoodIn wsX7_way wsX7_reckon := goodIn_r _ [20, 2, 3, 21, 22, 23, 24, 25, 26, 9, 27, 28, 29, 7, 30, 31, 32, 33, 34, 35, 36, 37, 38, 39, 40, 41, 42, 43, 44, 45, 46, 47, 48, 49, 50, 51, 52, 53, 58, 59, 60, 61, 62, 63, 64, 65, 66, 67, 68, 69, 70, 71] (by decide +kernel) (by decide +kernel)
set_option maxRecDepth 20000 in
theorem gX7_way_X7_reckon : GoodIn wsX7_way (wsV RX7 141 RX7 yX7_reckon wsX7_reckon) := goodIn_app (goodIn_of _ (by decide +kernel)) ggX7_way_X7_reckon
set_option maxRecDepth 20000 in
theorem ggX7_way_X7_firstRoad : GoodIn wsX7_way wsX7_firstRoad := goodIn_r _ [57, 21, 58, 59, 60, 61, 62, 63, 64, 65, 66, 67, 68, 69, 70, 71] (by decide +kernel) (by decide +kernel)
set_option maxRecDepth 20000 in
theorem gX7_way_X7_firstRoad : GoodIn wsX7_way (wsV RX7 144 RX7 yX7_firstRoad wsX7_firstRoad) := goodIn_app (goodIn_of _ (by decide +kernel)) ggX7_way_X7_firstRoad
theorem dX7_way_0 : decode cX7_way 0 = .ok (.aload_n 0, 1) := by decide +kernel
theorem dX7_way_1 : decode cX7_way 1 = .ok (.iconst 0, 1) := by decide +kernel
theorem dX7_way_2 : decode cX7_way 2 = .ok (.putfield 34, 3) := by decide +kernel
theorem dX7_way_5 : decode cX7_way 5 = .ok (.aload_n 0, 1) := by decide +kernel
theorem dX7_way_6 : decode cX7_way 6 = .ok (.iload_n 1, 1) := by decide +kernel
theorem dX7_way_7 : decode cX7_way 7 = .ok (.invokevirtual 55, 3) := by decide +kernel
theorem dX7_way_10 : decode cX7_way 10 = .ok (.ifCond .eq 20, 3) := by decide +kernel
theorem dX7_way_13 : decode cX7_way 13 = .ok (.aload_n 0, 1) := by decide +kernel
theorem dX7_way_14 : decode cX7_way 14 = .ok (.iload_n 2, 1) := by decide +kernel
theorem dX7_way_15 : decode cX7_way 15 = .ok (.invokevirtual 55, 3) := by decide +kernel
theorem dX7_way_18 : decode cX7_way 18 = .ok (.ifCond .eq 12, 3) := by decide +kernel
theorem dX7_way_21 : decode cX7_way 21 = .ok (.iload_n 3, 1) := by decide +kernel
theorem dX7_way_22 : decode cX7_way 22 = .ok (.iconst 0, 1) := by decide +kernel
theorem dX7_way_23 : decode cX7_way 23 = .ok (.iconst 1, 1) := by decide +kernel
theorem dX7_way_24 : decode cX7_way 24 = .ok (.invokestatic 41, 3) := by decide +kernel
theorem dX7_way_27 : decode cX7_way 27 = .ok (.ifCond .ne 9, 3) := by decide +kernel
