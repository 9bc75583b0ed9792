theorem dX7_isName_0 : decode cX7_isName 0 = .ok (.aload_n 0, 1) := by decide +kernel
theorem dX7_isName_1 : decode cX7_isName 1 = .ok (.getfield 65, 3) := by decide +kernel
theorem dX7_isName_4 : decode cX7_isName 4 = .ok (.iconst 1, 1) := by decide +kernel
theorem dX7_isName_5 : decode cX7_isName 5 = .ok (.bipush 6, 2) := by decide +kernel
theorem dX7_isName_7 : decode cX7_isName 7 = .ok (.invokestatic 68, 3) := by decide +kernel
theorem dX7_isName_10 : decode cX7_isName 10 = .ok (.istore_n 1, 1) := by decide +kernel
theorem dX7_isName_11 : decode cX7_isName 11 = .ok (.iconst 0, 1) := by decide +kernel
theorem dX7_isName_12 : decode cX7_isName 12 = .ok (.istore_n 2, 1) := by decide +kernel
theorem dX7_isName_13 : decode cX7_isName 13 = .ok (.iload_n 2, 1) := by decide +kernel
theorem dX7_isName_14 : decode cX7_isName 14 = .ok (.aload_n 0, 1) := by decide +kernel
theorem dX7_isName_15 : decode cX7_isName 15 = .ok (.getfield 65, 3) := by decide +kernel
theorem dX7_isName_18 : decode cX7_isName 18 = .ok (.if_icmp .ge 27, 3) := by decide +kernel
theorem dX7_isName_21 : decode cX7_isName 21 = .ok (.iload_n 1, 1) := by decide +kernel
theorem dX7_isName_22 : decode cX7_isName 22 = .ok (.ifCond .eq 23, 3) := by decide +kernel
theorem dX7_isName_25 : decode cX7_isName 25 = .ok (.aload_n 0, 1) := by decide +kernel
theorem dX7_isName_26 : decode cX7_isName 26 = .ok (.getfield 17, 3) := by decide +kernel
theorem dX7_isName_29 : decode cX7_isName 29 = .ok (.iload_n 2, 1) := by decide +kernel
theorem dX7_isName_30 : decode cX7_isName 30 = .ok (.iaload, 1) := by decide +kernel
theorem dX7_isName_31 : decode cX7_isName 31 = .ok (.bipush 97, 2) := by decide +kernel
theorem dX7_isName_33 : decode cX7_isName 33 = .ok (.bipush 122, 2) := by decide +kernel
theorem dX7_isName_35 : decode cX7_isName 35 = .ok (.invokestatic 68, 3) := by decide +kernel
theorem dX7_isName_38 : decode cX7_isName 38 = .ok (.istore_n 1, 1) := by decide +kernel
theorem dX7_isName_39 : decode cX7_isName 39 = .ok (.iinc 2 1, 3) := by decide +kernel
theorem dX7_isName_42 : decode cX7_isName 42 = .ok (.goto (-29), 3) := by decide +kernel
theorem dX7_isName_45 : decode cX7_isName 45 = .ok (.iload_n 1, 1) := by decide +kernel
theorem dX7_isName_46 : decode cX7_isName 46 = .ok (.ireturn, 1) := by decide +kernel
set_option maxRecDepth 20000 in
theorem ggX7_add_X7_isName : GoodIn wsX7_add wsX7_isName := goodIn_r _ [7, 1, 8, 9, 10, 6, 11, 65, 66, 67, 68, 69, 70, 71, 72, 73, 74, 75, 76] (by decide +kernel) (by decide +kernel)
set_option maxRecDepth 20000 in
theorem gX7_add_X7_isName : GoodIn wsX7_add (wsV RX7 72 RX7 yX7_isName wsX7_isName) := goodIn_app (goodIn_of _ (by decide +kernel)) ggX7_add_X7_isName
set_option maxRecDepth 20000 in
theorem ggX7_add_X7_canMake : GoodIn wsX7_add wsX7_canMake := goodIn_r _ [15, 2, 16, 17, 18, 6, 19, 8, 20, 21, 22, 23, 65, 66, 67, 68, 69, 70, 71, 72, 73, 74, 75, 76] (by decide +kernel) (by decide +kernel)
set_option maxRecDepth 20000 in
theorem gX7_add_X7_canMake : GoodIn wsX7_add (wsV RX7 76 RX7 yX7_canMake wsX7_canMake) := goodIn_app (goodIn_of _ (by decide +kernel)) ggX7_add_X7_canMake
set_option maxRecDepth 20000 in
theorem ggX7_add_X7_holds : GoodIn wsX7_add wsX7_holds := goodIn_r _ [27, 28, 65, 66, 67, 68, 69, 70, 71, 72, 73, 74, 75, 76] (by decide +kernel) (by decide +kernel)
set_option maxRecDepth 20000 in
theorem gX7_add_X7_holds : GoodIn wsX7_add (wsV RX7 79 RX7 yX7_holds wsX7_holds) := goodIn_app (goodIn_of _ (by decide +kernel)) ggX7_add_X7_holds
set_option maxRecDepth 20000 in
theorem ggX7_add_X7_keeps : GoodIn wsX7_add wsX7_keeps := goodIn_r _ [32, 33, 34, 35, 36, 6, 37, 2, 65, 66, 67, 68, 69, 70, 71, 72, 73, 74, 75, 76] (by decide +kernel) (by decide +kernel)
set_option maxRecDepth 20000 in
theorem gX7_add_X7_keeps : GoodIn wsX7_add (wsV RX7 83 RX7 yX7_keeps wsX7_keeps) := goodIn_app (goodIn_of _ (by decide +kernel)) ggX7_add_X7_keeps
set_option maxRecDepth 20000 in
theorem ggX7_add_X7_makes : GoodIn wsX7_add wsX7_makes := goodIn_r _ [41, 2, 8, 42, 43, 44, 6, 45, 46, 47, 48, 49, 20, 21, 22, 23, 50, 51, 52, 53, 54, 55, 56, 57, 58, 59, 60, 61, 62, 63, 64, 65, 66, 67, 68, 69, 70, 71, 72, 73, 74, 75, 76] (by decide +kernel) (by decide +kernel)
set_option maxRecDepth 20000 in
theorem gX7_add_X7_makes : GoodIn wsX7_add (wsV RX7 86 RX7 yX7_makes wsX7_makes) := goodIn_app (goodIn_of _ (by decide +kernel)) ggX7_add_X7_makes
theorem dX7_add_0 : decode cX7_add 0 = .ok (.aload_n 0, 1) := by decide +kernel
theorem dX7_add_1 : decode cX7_add 1 = .ok (.invokevirtual 72, 3) := by decide +kernel
theorem dX7_add_4 : decode cX7_add 4 = .ok (.istore_n 1, 1) := by decide +kernel
theorem dX7_add_5 : decode cX7_add 5 = .ok (.aload_n 0, 1) := by decide +kernel
theorem dX7_add_6 : decode cX7_add 6 = .ok (.iload_n 1, 1) := by decide +kernel
theorem dX7_add_7 : decode cX7_add 7 = .ok (.ifCond .ne 7, 3) := by decide +kernel
theorem dX7_add_10 : decode cX7_add 10 = .ok (.iconst 1, 1) := by decide +kernel
theorem dX7_add_11 : decode cX7_add 11 = .ok (.goto 31, 3) := by decide +kernel
theorem dX7_add_14 : decode cX7_add 14 = .ok (.aload_n 0, 1) := by decide +kernel
theorem dX7_add_15 : decode cX7_add 15 = .ok (.iconst 0, 1) := by decide +kernel
theorem dX7_add_16 : decode cX7_add 16 = .ok (.aload_n 0, 1) := by decide +kernel
theorem dX7_add_17 : decode cX7_add 17 = .ok (.getfield 65, 3) := by decide +kernel
theorem dX7_add_20 : decode cX7_add 20 = .ok (.invokevirtual 76, 3) := by decide +kernel
theorem dX7_add_23 : decode cX7_add 23 = .ok (.ifCond .eq 14, 3) := by decide +kernel
theorem dX7_add_26 : decode cX7_add 26 = .ok (.aload_n 0, 1) := by decide +kernel
theorem dX7_add_27 : decode cX7_add 27 = .ok (.getfield 7, 3) := by decide +kernel
theorem dX7_add_30 : decode cX7_add 30 = .ok (.iconst 0, 1) := by decide +kernel
theorem dX7_add_31 : decode cX7_add 31 = .ok (.iaload, 1) := by decide +kernel
theorem dX7_add_32 : decode cX7_add 32 = .ok (.bipush 40, 2) := by decide +kernel
theorem dX7_add_34 : decode cX7_add 34 = .ok (.if_icmp .ne 7, 3) := by decide +kernel
theorem dX7_add_37 : decode cX7_add 37 = .ok (.iconst 2, 1) := by decide +kernel
theorem dX7_add_38 : decode cX7_add 38 = .ok (.goto 4, 3) := by decide +kernel
theorem dX7_add_41 : decode cX7_add 41 = .ok (.iconst 0, 1) := by decide +kernel
theorem dX7_add_42 : decode cX7_add 42 = .ok (.invokevirtual 79, 3) := by decide +kernel
theorem dX7_add_45 : decode cX7_add 45 = .ok (.ifCond .ne 5, 3) := by decide +kernel
theorem dX7_add_48 : decode cX7_add 48 = .ok (.iconst 0, 1) := by decide +kernel
theorem dX7_add_49 : decode cX7_add 49 = .ok (.ireturn, 1) := by decide +kernel
theorem dX7_add_50 : decode cX7_add 50 = .ok (.aload_n 0, 1) := by decide +kernel
theorem dX7_add_51 : decode cX7_add 51 = .ok (.invokevirtual 83, 3) := by decide +kernel
theorem dX7_add_54 : decode cX7_add 54 = .ok (.aload_n 0, 1) := by decide +kernel
theorem dX7_add_55 : decode cX7_add 55 = .ok (.iconst 0, 1) := by decide +kernel
theorem dX7_add_56 : decode cX7_add 56 = .ok (.aload_n 0, 1) := by decide +kernel
theorem dX7_add_57 : decode cX7_add 57 = .ok (.getfield 65, 3) := by decide +kernel
theorem dX7_add_60 : decode cX7_add 60 = .ok (.invokevirtual 86, 3) := by decide +kernel
theorem dX7_add_63 : decode cX7_add 63 = .ok (.istore_n 2, 1) := by decide +kernel
theorem dX7_add_64 : decode cX7_add 64 = .ok (.aload_n 0, 1) := by decide +kernel
theorem dX7_add_65 : decode cX7_add 65 = .ok (.iconst 0, 1) := by decide +kernel
theorem dX7_add_66 : decode cX7_add 66 = .ok (.putfield 65, 3) := by decide +kernel
theorem dX7_add_69 : decode cX7_add 69 = .ok (.iload_n 2, 1) := by decide +kernel
theorem dX7_add_70 : decode cX7_add 70 = .ok (.ireturn, 1) := by decide +kernel
set_option maxRecDepth 20000 in
theorem ggX7_remove_X7_placeOf : GoodIn wsX7_remove wsX7_placeOf := goodIn_r _ [6, 1, 7, 8, 9, 5, 10, 48, 49, 50, 51, 52, 53, 54, 55, 56, 57, 58, 59] (by decide +kernel) (by decide +kernel)
set_option maxRecDepth 20000 in
theorem gX7_remove_X7_placeOf : GoodIn wsX7_remove (wsV RX7 89 RX7 yX7_placeOf wsX7_placeOf) := goodIn_app (goodIn_of _ (by decide +kernel)) ggX7_remove_X7_placeOf
set_option maxRecDepth 20000 in
theorem ggX7_remove_X7_holds : GoodIn wsX7_remove wsX7_holds := goodIn_r _ [14, 15, 48, 49, 50, 51, 52, 53, 54, 55, 56, 57, 58, 59] (by decide +kernel) (by decide +kernel)
set_option maxRecDepth 20000 in
theorem gX7_remove_X7_holds : GoodIn wsX7_remove (wsV RX7 79 RX7 yX7_holds wsX7_holds) := goodIn_app (goodIn_of _ (by decide +kernel)) ggX7_remove_X7_holds
set_option maxRecDepth 20000 in
theorem ggX7_remove_X7_keeps : GoodIn wsX7_remove wsX7_keeps := goodIn_r _ [19, 20, 21, 22, 23, 5, 24, 1, 48, 49, 50, 51, 52, 53, 54, 55, 56, 57, 58, 59] (by decide +kernel) (by decide +kernel)
set_option maxRecDepth 20000 in
theorem gX7_remove_X7_keeps : GoodIn wsX7_remove (wsV RX7 83 RX7 yX7_keeps wsX7_keeps) := goodIn_app (goodIn_of _ (by decide +kernel)) ggX7_remove_X7_keeps
set_option maxRecDepth 20000 in
theorem ggX7_remove_X7_takesOut : GoodIn wsX7_remove wsX7_takesOut := goodIn_r _ [28, 1, 7, 8, 9, 5, 10, 29, 30, 31, 32, 33, 34, 35, 36, 37, 38, 39, 40, 41, 42, 43, 44, 45, 46, 47, 48, 49, 50, 51, 52, 53, 54, 55, 56, 57, 58, 59] (by decide +kernel) (by decide +kernel)
set_option maxRecDepth 20000 in
theorem gX7_remove_X7_takesOut : GoodIn wsX7_remove (wsV RX7 92 RX7 yX7_takesOut wsX7_takesOut) := goodIn_app (goodIn_of _ (by decide +kernel)) ggX7_remove_X7_takesOut
theorem dX7_remove_0 : decode cX7_remove 0 = .ok (.aload_n 0, 1) := by decide +kernel
theorem dX7_remove_1 : decode cX7_remove 1 = .ok (.aload_n 0, 1) := by decide +kernel
theorem dX7_remove_2 : decode cX7_remove 2 = .ok (.iload_n 1, 1) := by decide +kernel
theorem dX7_remove_3 : decode cX7_remove 3 = .ok (.invokevirtual 89, 3) := by decide +kernel
theorem dX7_remove_6 : decode cX7_remove 6 = .ok (.bipush (-2), 2) := by decide +kernel
theorem dX7_remove_8 : decode cX7_remove 8 = .ok (.if_icmp .ne 7, 3) := by decide +kernel
theorem dX7_remove_11 : decode cX7_remove 11 = .ok (.iconst 1, 1) := by decide +kernel
theorem dX7_remove_12 : decode cX7_remove 12 = .ok (.goto 4, 3) := by decide +kernel
theorem dX7_remove_15 : decode cX7_remove 15 = .ok (.iconst 0, 1) := by decide +kernel
theorem dX7_remove_16 : decode cX7_remove 16 = .ok (.invokevirtual 79, 3) := by decide +kernel
theorem dX7_remove_19 : decode cX7_remove 19 = .ok (.ifCond .ne 5, 3) := by decide +kernel
theorem dX7_remove_22 : decode cX7_remove 22 = .ok (.iconst 0, 1) := by decide +kernel
theorem dX7_remove_23 : decode cX7_remove 23 = .ok (.ireturn, 1) := by decide +kernel
theorem dX7_remove_24 : decode cX7_remove 24 = .ok (.aload_n 0, 1) := by decide +kernel
theorem dX7_remove_25 : decode cX7_remove 25 = .ok (.invokevirtual 83, 3) := by decide +kernel
theorem dX7_remove_28 : decode cX7_remove 28 = .ok (.aload_n 0, 1) := by decide +kernel
theorem dX7_remove_29 : decode cX7_remove 29 = .ok (.aload_n 0, 1) := by decide +kernel
theorem dX7_remove_30 : decode cX7_remove 30 = .ok (.iload_n 1, 1) := by decide +kernel
theorem dX7_remove_31 : decode cX7_remove 31 = .ok (.invokevirtual 89, 3) := by decide +kernel
theorem dX7_remove_34 : decode cX7_remove 34 = .ok (.invokevirtual 92, 3) := by decide +kernel
theorem dX7_remove_37 : decode cX7_remove 37 = .ok (.aload_n 0, 1) := by decide +kernel
theorem dX7_remove_38 : decode cX7_remove 38 = .ok (.getfield 7, 3) := by decide +kernel
theorem dX7_remove_41 : decode cX7_remove 41 = .ok (.iconst 0, 1) := by decide +kernel
theorem dX7_remove_42 : decode cX7_remove 42 = .ok (.iaload, 1) := by decide +kernel
theorem dX7_remove_43 : decode cX7_remove 43 = .ok (.ireturn, 1) := by decide +kernel
set_option maxRecDepth 20000 in
theorem ggX7_rename_X7_isName : GoodIn wsX7_rename wsX7_isName := goodIn_r _ [6, 1, 7, 8, 9, 5, 10, 81, 82, 83, 84, 85, 86, 87, 88, 89, 90, 91, 92] (by decide +kernel) (by decide +kernel)
set_option maxRecDepth 20000 in
theorem gX7_rename_X7_isName : GoodIn wsX7_rename (wsV RX7 72 RX7 yX7_isName wsX7_isName) := goodIn_app (goodIn_of _ (by decide +kernel)) ggX7_rename_X7_isName
set_option maxRecDepth 20000 in
theorem ggX7_rename_X7_placeOf : GoodIn wsX7_rename wsX7_placeOf := goodIn_r _ [14, 15, 16, 17, 18, 5, 19, 81, 82, 83, 84, 85, 86, 87, 88, 89, 90, 91, 92] (by decide +kernel) (by decide +kernel)
set_option maxRecDepth 20000 in
theorem gX7_rename_X7_placeOf : GoodIn wsX7_rename (wsV RX7 89 RX7 yX7_placeOf wsX7_placeOf) := goodIn_app (goodIn_of _ (by decide +kernel)) ggX7_rename_X7_placeOf
set_option maxRecDepth 20000 in
theorem ggX7_rename_X7_canMake : GoodIn wsX7_rename wsX7_canMake := goodIn_r _ [23, 15, 24, 25, 26, 5, 27, 7, 16, 17, 18, 19, 81, 82, 83, 84, 85, 86, 87, 88, 89, 90, 91, 92] (by decide +kernel) (by decide +kernel)
set_option maxRecDepth 20000 in
theorem gX7_rename_X7_canMake : GoodIn wsX7_rename (wsV RX7 76 RX7 yX7_canMake wsX7_canMake) := goodIn_app (goodIn_of _ (by decide +kernel)) ggX7_rename_X7_canMake
set_option maxRecDepth 20000 in
theorem ggX7_rename_X7_holds : GoodIn wsX7_rename wsX7_holds := goodIn_r _ [31, 32, 81, 82, 83, 84, 85, 86, 87, 88, 89, 90, 91, 92] (by decide +kernel) (by decide +kernel)
set_option maxRecDepth 20000 in
theorem gX7_rename_X7_holds : GoodIn wsX7_rename (wsV RX7 79 RX7 yX7_holds wsX7_holds) := goodIn_app (goodIn_of _ (by decide +kernel)) ggX7_rename_X7_holds
set_option maxRecDepth 20000 in
theorem ggX7_rename_X7_keeps : GoodIn wsX7_rename wsX7_keeps := goodIn_r _ [36, 37, 38, 39, 40, 5, 41, 15, 81, 82, 83, 84, 85, 86, 87, 88, 89, 90, 91, 92] (by decide +kernel) (by decide +kernel)
set_option maxRecDepth 20000 in
theorem gX7_rename_X7_keeps : GoodIn wsX7_rename (wsV RX7 83 RX7 yX7_keeps wsX7_keeps) := goodIn_app (goodIn_of _ (by decide +kernel)) ggX7_rename_X7_keeps
set_option maxRecDepth 20000 in
theorem ggX7_rename_X7_takesOut : GoodIn wsX7_rename wsX7_takesOut := goodIn_r _ [45, 15, 16, 17, 18, 5, 19, 46, 47, 48, 49, 50, 51, 52, 53, 54, 55, 56, 57, 58, 59, 60, 61, 62, 63, 64, 81, 82, 83, 84, 85, 86, 87, 88, 89, 90, 91, 92] (by decide +kernel) (by decide +kernel)
set_option maxRecDepth 20000 in
theorem gX7_rename_X7_takesOut : GoodIn wsX7_rename (wsV RX7 92 RX7 yX7_takesOut wsX7_takesOut) := goodIn_app (goodIn_of _ (by decide +kernel)) ggX7_rename_X7_takesOut
set_option maxRecDepth 20000 in
theorem ggX7_rename_X7_makes : GoodIn wsX7_rename wsX7_makes := goodIn_r _ [68, 15, 7, 69, 70, 71, 5, 72, 73, 74, 75, 76, 16, 17, 18, 19, 77, 78, 79, 80, 50, 51, 52, 53, 54, 55, 56, 57, 62, 63, 64, 81, 82, 83, 84, 85, 86, 87, 88, 89, 90, 91, 92] (by decide +kernel) (by decide +kernel)
set_option maxRecDepth 20000 in
theorem gX7_rename_X7_makes : GoodIn wsX7_rename (wsV RX7 86 RX7 yX7_makes wsX7_makes) := goodIn_app (goodIn_of _ (by decide +kernel)) ggX7_rename_X7_makes
theorem dX7_rename_0 : decode cX7_rename 0 = .ok (.aload_n 0, 1) := by decide +kernel
theorem dX7_rename_1 : decode cX7_rename 1 = .ok (.invokevirtual 72, 3) := by decide +kernel
theorem dX7_rename_4 : decode cX7_rename 4 = .ok (.istore_n 2, 1) := by decide +kernel
theorem dX7_rename_5 : decode cX7_rename 5 = .ok (.aload_n 0, 1) := by decide +kernel
theorem dX7_rename_6 : decode cX7_rename 6 = .ok (.aload_n 0, 1) := by decide +kernel
theorem dX7_rename_7 : decode cX7_rename 7 = .ok (.iload_n 1, 1) := by decide +kernel
theorem dX7_rename_8 : decode cX7_rename 8 = .ok (.invokevirtual 89, 3) := by decide +kernel
theorem dX7_rename_11 : decode cX7_rename 11 = .ok (.bipush (-2), 2) := by decide +kernel
theorem dX7_rename_13 : decode cX7_rename 13 = .ok (.if_icmp .ne 7, 3) := by decide +kernel
theorem dX7_rename_16 : decode cX7_rename 16 = .ok (.iconst 1, 1) := by decide +kernel
theorem dX7_rename_17 : decode cX7_rename 17 = .ok (.goto 28, 3) := by decide +kernel
theorem dX7_rename_20 : decode cX7_rename 20 = .ok (.iload_n 2, 1) := by decide +kernel
theorem dX7_rename_21 : decode cX7_rename 21 = .ok (.ifCond .ne 7, 3) := by decide +kernel
theorem dX7_rename_24 : decode cX7_rename 24 = .ok (.iconst 2, 1) := by decide +kernel
theorem dX7_rename_25 : decode cX7_rename 25 = .ok (.goto 20, 3) := by decide +kernel
theorem dX7_rename_28 : decode cX7_rename 28 = .ok (.aload_n 0, 1) := by decide +kernel
theorem dX7_rename_29 : decode cX7_rename 29 = .ok (.iconst 0, 1) := by decide +kernel
theorem dX7_rename_30 : decode cX7_rename 30 = .ok (.aload_n 0, 1) := by decide +kernel
theorem dX7_rename_31 : decode cX7_rename 31 = .ok (.getfield 65, 3) := by decide +kernel
theorem dX7_rename_34 : decode cX7_rename 34 = .ok (.invokevirtual 76, 3) := by decide +kernel
theorem dX7_rename_37 : decode cX7_rename 37 = .ok (.ifCond .ne 7, 3) := by decide +kernel
theorem dX7_rename_40 : decode cX7_rename 40 = .ok (.iconst 3, 1) := by decide +kernel
theorem dX7_rename_41 : decode cX7_rename 41 = .ok (.goto 4, 3) := by decide +kernel
theorem dX7_rename_44 : decode cX7_rename 44 = .ok (.iconst 0, 1) := by decide +kernel
theorem dX7_rename_45 : decode cX7_rename 45 = .ok (.invokevirtual 79, 3) := by decide +kernel
theorem dX7_rename_48 : decode cX7_rename 48 = .ok (.ifCond .ne 5, 3) := by decide +kernel
theorem dX7_rename_51 : decode cX7_rename 51 = .ok (.iconst 0, 1) := by decide +kernel
theorem dX7_rename_52 : decode cX7_rename 52 = .ok (.ireturn, 1) := by decide +kernel
theorem dX7_rename_53 : decode cX7_rename 53 = .ok (.aload_n 0, 1) := by decide +kernel
theorem dX7_rename_54 : decode cX7_rename 54 = .ok (.invokevirtual 83, 3) := by decide +kernel
theorem dX7_rename_57 : decode cX7_rename 57 = .ok (.aload_n 0, 1) := by decide +kernel
theorem dX7_rename_58 : decode cX7_rename 58 = .ok (.aload_n 0, 1) := by decide +kernel
theorem dX7_rename_59 : decode cX7_rename 59 = .ok (.iload_n 1, 1) := by decide +kernel
theorem dX7_rename_60 : decode cX7_rename 60 = .ok (.invokevirtual 89, 3) := by decide +kernel
theorem dX7_rename_63 : decode cX7_rename 63 = .ok (.invokevirtual 92, 3) := by decide +kernel
theorem dX7_rename_66 : decode cX7_rename 66 = .ok (.aload_n 0, 1) := by decide +kernel
theorem dX7_rename_67 : decode cX7_rename 67 = .ok (.iconst 0, 1) := by decide +kernel
theorem dX7_rename_68 : decode cX7_rename 68 = .ok (.aload_n 0, 1) := by decide +kernel
theorem dX7_rename_69 : decode cX7_rename 69 = .ok (.getfield 65, 3) := by decide +kernel
theorem dX7_rename_72 : decode cX7_rename 72 = .ok (.invokevirtual 86, 3) := by decide +kernel
theorem dX7_rename_75 : decode cX7_rename 75 = .ok (.istore_n 3, 1) := by decide +kernel
theorem dX7_rename_76 : decode cX7_rename 76 = .ok (.aload_n 0, 1) := by decide +kernel
theorem dX7_rename_77 : decode cX7_rename 77 = .ok (.iconst 0, 1) := by decide +kernel
theorem dX7_rename_78 : decode cX7_rename 78 = .ok (.putfield 65, 3) := by decide +kernel
theorem dX7_rename_81 : decode cX7_rename 81 = .ok (.iload_n 3, 1) := by decide +kernel
theorem dX7_rename_82 : decode cX7_rename 82 = .ok (.ireturn, 1) := by decide +kernel
set_option maxRecDepth 20000 in
theorem ggX7_isReader_X7_in : GoodIn wsX7_isReader wsX7_in := goodIn_r _ [4] (by decide +kernel) (by decide +kernel)
set_option maxRecDepth 20000 in
theorem gX7_isReader_X7_in : GoodIn wsX7_isReader (va_wsS RX7 68 yX7_in wsX7_in) := goodIn_app (goodIn_of _ (by decide +kernel)) ggX7_isReader_X7_in
theorem dX7_isReader_0 : decode cX7_isReader 0 = .ok (.iload_n 0, 1) := by decide +kernel
theorem dX7_isReader_1 : decode cX7_isReader 1 = .ok (.iconst 0, 1) := by decide +kernel
theorem dX7_isReader_2 : decode cX7_isReader 2 = .ok (.iconst 3, 1) := by decide +kernel
theorem dX7_isReader_3 : decode cX7_isReader 3 = .ok (.invokestatic 68, 3) := by decide +kernel
theorem dX7_isReader_6 : decode cX7_isReader 6 = .ok (.ireturn, 1) := by decide +kernel
set_option maxRecDepth 20000 in
theorem ggX7_isOpen_X7_isReader : GoodIn wsX7_isOpen wsX7_isReader := goodIn_r _ [5, 6, 7, 4, 8] (by decide +kernel) (by decide +kernel)
set_option maxRecDepth 20000 in
theorem gX7_isOpen_X7_isReader : GoodIn wsX7_isOpen (va_wsS RX7 95 yX7_isReader wsX7_isReader) := goodIn_app (goodIn_of _ (by decide +kernel)) ggX7_isOpen_X7_isReader
theorem dX7_isOpen_0 : decode cX7_isOpen 0 = .ok (.iload_n 1, 1) := by decide +kernel
theorem dX7_isOpen_1 : decode cX7_isOpen 1 = .ok (.invokestatic 95, 3) := by decide +kernel
theorem dX7_isOpen_4 : decode cX7_isOpen 4 = .ok (.ifCond .eq 20, 3) := by decide +kernel
theorem dX7_isOpen_7 : decode cX7_isOpen 7 = .ok (.aload_n 0, 1) := by decide +kernel
theorem dX7_isOpen_8 : decode cX7_isOpen 8 = .ok (.getfield 7, 3) := by decide +kernel
theorem dX7_isOpen_11 : decode cX7_isOpen 11 = .ok (.iconst 4, 1) := by decide +kernel
theorem dX7_isOpen_12 : decode cX7_isOpen 12 = .ok (.iload_n 1, 1) := by decide +kernel
theorem dX7_isOpen_13 : decode cX7_isOpen 13 = .ok (.iadd, 1) := by decide +kernel
theorem dX7_isOpen_14 : decode cX7_isOpen 14 = .ok (.iaload, 1) := by decide +kernel
theorem dX7_isOpen_15 : decode cX7_isOpen 15 = .ok (.bipush (-2), 2) := by decide +kernel
theorem dX7_isOpen_17 : decode cX7_isOpen 17 = .ok (.if_icmp .eq 7, 3) := by decide +kernel
theorem dX7_isOpen_20 : decode cX7_isOpen 20 = .ok (.iconst 1, 1) := by decide +kernel
theorem dX7_isOpen_21 : decode cX7_isOpen 21 = .ok (.goto 4, 3) := by decide +kernel
theorem dX7_isOpen_24 : decode cX7_isOpen 24 = .ok (.iconst 0, 1) := by decide +kernel
theorem dX7_isOpen_25 : decode cX7_isOpen 25 = .ok (.ireturn, 1) := by decide +kernel
set_option maxRecDepth 20000 in
theorem ggX7_open_X7_isReader : GoodIn wsX7_open wsX7_isReader := goodIn_r _ [5, 6, 7, 4, 8] (by decide +kernel) (by decide +kernel)
set_option maxRecDepth 20000 in
theorem gX7_open_X7_isReader : GoodIn wsX7_open (va_wsS RX7 95 yX7_isReader wsX7_isReader) := goodIn_app (goodIn_of _ (by decide +kernel)) ggX7_open_X7_isReader
set_option maxRecDepth 20000 in
theorem ggX7_open_X7_holds : GoodIn wsX7_open wsX7_holds := goodIn_r _ [12, 13, 27, 28, 29, 30, 31, 32, 33, 34, 35, 36, 37, 38] (by decide +kernel) (by decide +kernel)
set_option maxRecDepth 20000 in
theorem gX7_open_X7_holds : GoodIn wsX7_open (wsV RX7 79 RX7 yX7_holds wsX7_holds) := goodIn_app (goodIn_of _ (by decide +kernel)) ggX7_open_X7_holds
set_option maxRecDepth 20000 in
theorem ggX7_open_X7_keeps : GoodIn wsX7_open wsX7_keeps := goodIn_r _ [17, 18, 19, 20, 21, 4, 22, 1, 27, 28, 29, 30, 31, 32, 33, 34, 35, 36, 37, 38] (by decide +kernel) (by decide +kernel)
set_option maxRecDepth 20000 in
theorem gX7_open_X7_keeps : GoodIn wsX7_open (wsV RX7 83 RX7 yX7_keeps wsX7_keeps) := goodIn_app (goodIn_of _ (by decide +kernel)) ggX7_open_X7_keeps
set_option maxRecDepth 20000 in
theorem ggX7_open_X7_isOpen : GoodIn wsX7_open wsX7_isOpen := goodIn_r _ [26, 1, 2, 3, 4, 5, 6, 7, 8, 27, 28, 29, 30, 31, 32, 33, 34, 35, 36, 37, 38] (by decide +kernel) (by decide +kernel)
set_option maxRecDepth 20000 in
theorem gX7_open_X7_isOpen : GoodIn wsX7_open (wsV RX7 98 RX7 yX7_isOpen wsX7_isOpen) := goodIn_app (goodIn_of _ (by decide +kernel)) ggX7_open_X7_isOpen
theorem dX7_open_0 : decode cX7_open 0 = .ok (.aload_n 0, 1) := by decide +kernel
theorem dX7_open_1 : decode cX7_open 1 = .ok (.iload_n 1, 1) := by decide +kernel
theorem dX7_open_2 : decode cX7_open 2 = .ok (.invokestatic 95, 3) := by decide +kernel
theorem dX7_open_5 : decode cX7_open 5 = .ok (.ifCond .eq 7, 3) := by decide +kernel
theorem dX7_open_8 : decode cX7_open 8 = .ok (.iconst 0, 1) := by decide +kernel
theorem dX7_open_9 : decode cX7_open 9 = .ok (.goto 4, 3) := by decide +kernel
theorem dX7_open_12 : decode cX7_open 12 = .ok (.iconst 1, 1) := by decide +kernel
theorem dX7_open_13 : decode cX7_open 13 = .ok (.invokevirtual 79, 3) := by decide +kernel
theorem dX7_open_16 : decode cX7_open 16 = .ok (.ifCond .ne 5, 3) := by decide +kernel
theorem dX7_open_19 : decode cX7_open 19 = .ok (.iconst 0, 1) := by decide +kernel
theorem dX7_open_20 : decode cX7_open 20 = .ok (.ireturn, 1) := by decide +kernel
theorem dX7_open_21 : decode cX7_open 21 = .ok (.aload_n 0, 1) := by decide +kernel
theorem dX7_open_22 : decode cX7_open 22 = .ok (.invokevirtual 83, 3) := by decide +kernel
theorem dX7_open_25 : decode cX7_open 25 = .ok (.aload_n 0, 1) := by decide +kernel
theorem dX7_open_26 : decode cX7_open 26 = .ok (.getfield 7, 3) := by decide +kernel
theorem dX7_open_29 : decode cX7_open 29 = .ok (.iconst 4, 1) := by decide +kernel
theorem dX7_open_30 : decode cX7_open 30 = .ok (.iload_n 1, 1) := by decide +kernel
theorem dX7_open_31 : decode cX7_open 31 = .ok (.iadd, 1) := by decide +kernel
theorem dX7_open_32 : decode cX7_open 32 = .ok (.iconst (-1), 1) := by decide +kernel
theorem dX7_open_33 : decode cX7_open 33 = .ok (.iastore, 1) := by decide +kernel
theorem dX7_open_34 : decode cX7_open 34 = .ok (.iconst 0, 1) := by decide +kernel
theorem dX7_open_35 : decode cX7_open 35 = .ok (.istore_n 2, 1) := by decide +kernel
theorem dX7_open_36 : decode cX7_open 36 = .ok (.iconst 0, 1) := by decide +kernel
theorem dX7_open_37 : decode cX7_open 37 = .ok (.istore_n 3, 1) := by decide +kernel
theorem dX7_open_38 : decode cX7_open 38 = .ok (.iload_n 3, 1) := by decide +kernel
theorem dX7_open_39 : decode cX7_open 39 = .ok (.iconst 4, 1) := by decide +kernel
theorem dX7_open_40 : decode cX7_open 40 = .ok (.if_icmp .ge 25, 3) := by decide +kernel
theorem dX7_open_43 : decode cX7_open 43 = .ok (.iload_n 2, 1) := by decide +kernel
theorem dX7_open_44 : decode cX7_open 44 = .ok (.aload_n 0, 1) := by decide +kernel
theorem dX7_open_45 : decode cX7_open 45 = .ok (.iload_n 3, 1) := by decide +kernel
theorem dX7_open_46 : decode cX7_open 46 = .ok (.invokevirtual 98, 3) := by decide +kernel
theorem dX7_open_49 : decode cX7_open 49 = .ok (.ifCond .eq 7, 3) := by decide +kernel
theorem dX7_open_52 : decode cX7_open 52 = .ok (.iconst 1, 1) := by decide +kernel
theorem dX7_open_53 : decode cX7_open 53 = .ok (.goto 4, 3) := by decide +kernel
theorem dX7_open_56 : decode cX7_open 56 = .ok (.iconst 0, 1) := by decide +kernel
theorem dX7_open_57 : decode cX7_open 57 = .ok (.iadd, 1) := by decide +kernel
theorem dX7_open_58 : decode cX7_open 58 = .ok (.istore_n 2, 1) := by decide +kernel
theorem dX7_open_59 : decode cX7_open 59 = .ok (.iinc 3 1, 3) := by decide +kernel
theorem dX7_open_62 : decode cX7_open 62 = .ok (.goto (-24), 3) := by decide +kernel
theorem dX7_open_65 : decode cX7_open 65 = .ok (.iload_n 2, 1) := by decide +kernel
theorem dX7_open_66 : decode cX7_open 66 = .ok (.ireturn, 1) := by decide +kernel
set_option maxRecDepth 20000 in
theorem ggX7_moves_X7_keeps : GoodIn wsX7_moves wsX7_keeps := goodIn_r _ [6, 7, 8, 9, 10, 5, 11, 1, 12, 13, 14, 15, 16, 17, 18, 19, 20, 21, 22, 23] (by decide +kernel) (by decide +kernel)
set_option maxRecDepth 20000 in
theorem gX7_moves_X7_keeps : GoodIn wsX7_moves (wsV RX7 83 RX7 yX7_keeps wsX7_keeps) := goodIn_app (goodIn_of _ (by decide +kernel)) ggX7_moves_X7_keeps
theorem dX7_moves_0 : decode cX7_moves 0 = .ok (.aload_n 0, 1) := by decide +kernel
theorem dX7_moves_1 : decode cX7_moves 1 = .ok (.invokevirtual 83, 3) := by decide +kernel
theorem dX7_moves_4 : decode cX7_moves 4 = .ok (.aload_n 0, 1) := by decide +kernel
theorem dX7_moves_5 : decode cX7_moves 5 = .ok (.getfield 7, 3) := by decide +kernel
theorem dX7_moves_8 : decode cX7_moves 8 = .ok (.iconst 4, 1) := by decide +kernel
theorem dX7_moves_9 : decode cX7_moves 9 = .ok (.iload_n 1, 1) := by decide +kernel
theorem dX7_moves_10 : decode cX7_moves 10 = .ok (.iadd, 1) := by decide +kernel
theorem dX7_moves_11 : decode cX7_moves 11 = .ok (.iaload, 1) := by decide +kernel
theorem dX7_moves_12 : decode cX7_moves 12 = .ok (.istore_n 3, 1) := by decide +kernel
theorem dX7_moves_13 : decode cX7_moves 13 = .ok (.aload_n 0, 1) := by decide +kernel
theorem dX7_moves_14 : decode cX7_moves 14 = .ok (.getfield 7, 3) := by decide +kernel
theorem dX7_moves_17 : decode cX7_moves 17 = .ok (.iconst 4, 1) := by decide +kernel
theorem dX7_moves_18 : decode cX7_moves 18 = .ok (.iload_n 1, 1) := by decide +kernel
theorem dX7_moves_19 : decode cX7_moves 19 = .ok (.iadd, 1) := by decide +kernel
theorem dX7_moves_20 : decode cX7_moves 20 = .ok (.iload_n 2, 1) := by decide +kernel
theorem dX7_moves_21 : decode cX7_moves 21 = .ok (.iastore, 1) := by decide +kernel
theorem dX7_moves_22 : decode cX7_moves 22 = .ok (.iload_n 3, 1) := by decide +kernel
theorem dX7_moves_23 : decode cX7_moves 23 = .ok (.ireturn, 1) := by decide +kernel
set_option maxRecDepth 20000 in
theorem ggX7_close_X7_isReader : GoodIn wsX7_close wsX7_isReader := goodIn_r _ [4, 5, 6, 3, 7] (by decide +kernel) (by decide +kernel)
set_option maxRecDepth 20000 in
theorem gX7_close_X7_isReader : GoodIn wsX7_close (va_wsS RX7 95 yX7_isReader wsX7_isReader) := goodIn_app (goodIn_of _ (by decide +kernel)) ggX7_close_X7_isReader
set_option maxRecDepth 20000 in
theorem ggX7_close_X7_isOpen : GoodIn wsX7_close wsX7_isOpen := goodIn_r _ [11, 12, 1, 2, 3, 4, 5, 6, 7, 31, 32, 33, 34, 35, 36, 37, 38, 39, 40, 41, 42] (by decide +kernel) (by decide +kernel)
set_option maxRecDepth 20000 in
theorem gX7_close_X7_isOpen : GoodIn wsX7_close (wsV RX7 98 RX7 yX7_isOpen wsX7_isOpen) := goodIn_app (goodIn_of _ (by decide +kernel)) ggX7_close_X7_isOpen
set_option maxRecDepth 20000 in
theorem ggX7_close_X7_holds : GoodIn wsX7_close wsX7_holds := goodIn_r _ [16, 17, 31, 32, 33, 34, 35, 36, 37, 38, 39, 40, 41, 42] (by decide +kernel) (by decide +kernel)
set_option maxRecDepth 20000 in
theorem gX7_close_X7_holds : GoodIn wsX7_close (wsV RX7 79 RX7 yX7_holds wsX7_holds) := goodIn_app (goodIn_of _ (by decide +kernel)) ggX7_close_X7_holds
set_option maxRecDepth 20000 in
theorem ggX7_close_X7_moves : GoodIn wsX7_close wsX7_moves := goodIn_r _ [21, 12, 22, 23, 24, 3, 25, 26, 27, 28, 29, 30, 31, 32, 33, 34, 35, 36, 37, 38, 39, 40, 41, 42] (by decide +kernel) (by decide +kernel)
set_option maxRecDepth 20000 in
theorem gX7_close_X7_moves : GoodIn wsX7_close (wsV RX7 101 RX7 yX7_moves wsX7_moves) := goodIn_app (goodIn_of _ (by decide +kernel)) ggX7_close_X7_moves
theorem dX7_close_0 : decode cX7_close 0 = .ok (.aload_n 0, 1) := by decide +kernel
theorem dX7_close_1 : decode cX7_close 1 = .ok (.iload_n 1, 1) := by decide +kernel
theorem dX7_close_2 : decode cX7_close 2 = .ok (.invokestatic 95, 3) := by decide +kernel
theorem dX7_close_5 : decode cX7_close 5 = .ok (.ifCond .ne 7, 3) := by decide +kernel
theorem dX7_close_8 : decode cX7_close 8 = .ok (.iconst 1, 1) := by decide +kernel
theorem dX7_close_9 : decode cX7_close 9 = .ok (.goto 16, 3) := by decide +kernel
theorem dX7_close_12 : decode cX7_close 12 = .ok (.aload_n 0, 1) := by decide +kernel
theorem dX7_close_13 : decode cX7_close 13 = .ok (.iload_n 1, 1) := by decide +kernel
theorem dX7_close_14 : decode cX7_close 14 = .ok (.invokevirtual 98, 3) := by decide +kernel
theorem dX7_close_17 : decode cX7_close 17 = .ok (.ifCond .ne 7, 3) := by decide +kernel
theorem dX7_close_20 : decode cX7_close 20 = .ok (.iconst 2, 1) := by decide +kernel
theorem dX7_close_21 : decode cX7_close 21 = .ok (.goto 4, 3) := by decide +kernel
theorem dX7_close_24 : decode cX7_close 24 = .ok (.iconst 0, 1) := by decide +kernel
theorem dX7_close_25 : decode cX7_close 25 = .ok (.invokevirtual 79, 3) := by decide +kernel
theorem dX7_close_28 : decode cX7_close 28 = .ok (.ifCond .eq 13, 3) := by decide +kernel
theorem dX7_close_31 : decode cX7_close 31 = .ok (.aload_n 0, 1) := by decide +kernel
theorem dX7_close_32 : decode cX7_close 32 = .ok (.iload_n 1, 1) := by decide +kernel
theorem dX7_close_33 : decode cX7_close 33 = .ok (.bipush (-2), 2) := by decide +kernel
theorem dX7_close_35 : decode cX7_close 35 = .ok (.invokevirtual 101, 3) := by decide +kernel
theorem dX7_close_38 : decode cX7_close 38 = .ok (.goto 4, 3) := by decide +kernel
theorem dX7_close_41 : decode cX7_close 41 = .ok (.iconst 0, 1) := by decide +kernel
theorem dX7_close_42 : decode cX7_close 42 = .ok (.ireturn, 1) := by decide +kernel
set_option maxRecDepth 20000 in
theorem ggX7_nextPlace_X7_keyAt : GoodIn wsX7_nextPlace wsX7_keyAt := goodIn_r _ [6, 7, 8, 9, 5, 10, 1, 11, 12, 13, 14, 15, 16, 17, 18, 19, 20, 21, 22] (by decide +kernel) (by decide +kernel)
set_option maxRecDepth 20000 in
theorem gX7_nextPlace_X7_keyAt : GoodIn wsX7_nextPlace (wsV RX7 45 RX7 yX7_keyAt wsX7_keyAt) := goodIn_app (goodIn_of _ (by decide +kernel)) ggX7_nextPlace_X7_keyAt
theorem dX7_nextPlace_0 : decode cX7_nextPlace 0 = .ok (.iconst 0, 1) := by decide +kernel
theorem dX7_nextPlace_1 : decode cX7_nextPlace 1 = .ok (.istore_n 2, 1) := by decide +kernel
theorem dX7_nextPlace_2 : decode cX7_nextPlace 2 = .ok (.iload_n 2, 1) := by decide +kernel
theorem dX7_nextPlace_3 : decode cX7_nextPlace 3 = .ok (.aload_n 0, 1) := by decide +kernel
theorem dX7_nextPlace_4 : decode cX7_nextPlace 4 = .ok (.getfield 7, 3) := by decide +kernel
theorem dX7_nextPlace_7 : decode cX7_nextPlace 7 = .ok (.iconst 0, 1) := by decide +kernel
theorem dX7_nextPlace_8 : decode cX7_nextPlace 8 = .ok (.iaload, 1) := by decide +kernel
theorem dX7_nextPlace_9 : decode cX7_nextPlace 9 = .ok (.if_icmp .ge 25, 3) := by decide +kernel
theorem dX7_nextPlace_12 : decode cX7_nextPlace 12 = .ok (.aload_n 0, 1) := by decide +kernel
theorem dX7_nextPlace_13 : decode cX7_nextPlace 13 = .ok (.iload_n 2, 1) := by decide +kernel
theorem dX7_nextPlace_14 : decode cX7_nextPlace 14 = .ok (.invokevirtual 45, 3) := by decide +kernel
theorem dX7_nextPlace_17 : decode cX7_nextPlace 17 = .ok (.aload_n 0, 1) := by decide +kernel
theorem dX7_nextPlace_18 : decode cX7_nextPlace 18 = .ok (.getfield 7, 3) := by decide +kernel
theorem dX7_nextPlace_21 : decode cX7_nextPlace 21 = .ok (.iconst 4, 1) := by decide +kernel
theorem dX7_nextPlace_22 : decode cX7_nextPlace 22 = .ok (.iload_n 1, 1) := by decide +kernel
theorem dX7_nextPlace_23 : decode cX7_nextPlace 23 = .ok (.iadd, 1) := by decide +kernel
theorem dX7_nextPlace_24 : decode cX7_nextPlace 24 = .ok (.iaload, 1) := by decide +kernel
theorem dX7_nextPlace_25 : decode cX7_nextPlace 25 = .ok (.if_icmp .gt 9, 3) := by decide +kernel
theorem dX7_nextPlace_28 : decode cX7_nextPlace 28 = .ok (.iinc 2 1, 3) := by decide +kernel
theorem dX7_nextPlace_31 : decode cX7_nextPlace 31 = .ok (.goto (-29), 3) := by decide +kernel
theorem dX7_nextPlace_34 : decode cX7_nextPlace 34 = .ok (.iload_n 2, 1) := by decide +kernel
theorem dX7_nextPlace_35 : decode cX7_nextPlace 35 = .ok (.ireturn, 1) := by decide +kernel
set_option maxRecDepth 20000 in
theorem ggX7_next_X7_isReader : GoodIn wsX7_next wsX7_isReader := goodIn_r _ [5, 6, 7, 4, 8] (by decide +kernel) (by decide +kernel)
set_option maxRecDepth 20000 in
theorem gX7_next_X7_isReader : GoodIn wsX7_next (va_wsS RX7 95 yX7_isReader wsX7_isReader) := goodIn_app (goodIn_of _ (by decide +kernel)) ggX7_next_X7_isReader
set_option maxRecDepth 20000 in
theorem ggX7_next_X7_isOpen : GoodIn wsX7_next wsX7_isOpen := goodIn_r _ [12, 1, 2, 3, 4, 5, 6, 7, 8, 39, 40, 41, 42, 43, 44, 45, 46, 47, 48, 49, 50] (by decide +kernel) (by decide +kernel)
set_option maxRecDepth 20000 in
theorem gX7_next_X7_isOpen : GoodIn wsX7_next (wsV RX7 98 RX7 yX7_isOpen wsX7_isOpen) := goodIn_app (goodIn_of _ (by decide +kernel)) ggX7_next_X7_isOpen
set_option maxRecDepth 20000 in
theorem ggX7_next_X7_holds : GoodIn wsX7_next wsX7_holds := goodIn_r _ [16, 17, 39, 40, 41, 42, 43, 44, 45, 46, 47, 48, 49, 50] (by decide +kernel) (by decide +kernel)
set_option maxRecDepth 20000 in
theorem gX7_next_X7_holds : GoodIn wsX7_next (wsV RX7 79 RX7 yX7_holds wsX7_holds) := goodIn_app (goodIn_of _ (by decide +kernel)) ggX7_next_X7_holds
set_option maxRecDepth 20000 in
theorem ggX7_next_X7_keeps : GoodIn wsX7_next wsX7_keeps := goodIn_r _ [21, 22, 23, 24, 25, 4, 26, 1, 39, 40, 41, 42, 43, 44, 45, 46, 47, 48, 49, 50] (by decide +kernel) (by decide +kernel)
set_option maxRecDepth 20000 in
theorem gX7_next_X7_keeps : GoodIn wsX7_next (wsV RX7 83 RX7 yX7_keeps wsX7_keeps) := goodIn_app (goodIn_of _ (by decide +kernel)) ggX7_next_X7_keeps
set_option maxRecDepth 20000 in
theorem ggX7_next_X7_nextPlace : GoodIn wsX7_next wsX7_nextPlace := goodIn_r _ [30, 1, 31, 32, 33, 4, 34, 35, 36, 37, 38, 39, 40, 41, 42, 43, 44, 45, 46, 47, 48, 49, 50] (by decide +kernel) (by decide +kernel)
set_option maxRecDepth 20000 in
theorem gX7_next_X7_nextPlace : GoodIn wsX7_next (wsV RX7 104 RX7 yX7_nextPlace wsX7_nextPlace) := goodIn_app (goodIn_of _ (by decide +kernel)) ggX7_next_X7_nextPlace
set_option maxRecDepth 20000 in
theorem ggX7_next_X7_keyAt : GoodIn wsX7_next wsX7_keyAt := goodIn_r _ [34, 35, 36, 37, 4, 38, 1, 39, 40, 41, 42, 43, 44, 45, 46, 47, 48, 49, 50] (by decide +kernel) (by decide +kernel)
set_option maxRecDepth 20000 in
theorem gX7_next_X7_keyAt : GoodIn wsX7_next (wsV RX7 45 RX7 yX7_keyAt wsX7_keyAt) := goodIn_app (goodIn_of _ (by decide +kernel)) ggX7_next_X7_keyAt
set_option maxRecDepth 20000 in
theorem ggX7_next_X7_of : GoodIn wsX7_next wsX7_of := goodIn_r _ [38, 1, 39, 40, 41, 42, 43, 44, 45, 46, 47, 48, 49, 50] (by decide +kernel) (by decide +kernel)
set_option maxRecDepth 20000 in
theorem gX7_next_X7_of : GoodIn wsX7_next (wsV RX7 24 RX7 yX7_of wsX7_of) := goodIn_app (goodIn_of _ (by decide +kernel)) ggX7_next_X7_of
theorem dX7_next_0 : decode cX7_next 0 = .ok (.aload_n 0, 1) := by decide +kernel
theorem dX7_next_1 : decode cX7_next 1 = .ok (.iload_n 1, 1) := by decide +kernel
theorem dX7_next_2 : decode cX7_next 2 = .ok (.invokestatic 95, 3) := by decide +kernel
theorem dX7_next_5 : decode cX7_next 5 = .ok (.ifCond .ne 7, 3) := by decide +kernel
theorem dX7_next_8 : decode cX7_next 8 = .ok (.iconst 1, 1) := by decide +kernel
theorem dX7_next_9 : decode cX7_next 9 = .ok (.goto 16, 3) := by decide +kernel
theorem dX7_next_12 : decode cX7_next 12 = .ok (.aload_n 0, 1) := by decide +kernel
theorem dX7_next_13 : decode cX7_next 13 = .ok (.iload_n 1, 1) := by decide +kernel
theorem dX7_next_14 : decode cX7_next 14 = .ok (.invokevirtual 98, 3) := by decide +kernel
theorem dX7_next_17 : decode cX7_next 17 = .ok (.ifCond .ne 7, 3) := by decide +kernel
theorem dX7_next_20 : decode cX7_next 20 = .ok (.iconst 2, 1) := by decide +kernel
theorem dX7_next_21 : decode cX7_next 21 = .ok (.goto 4, 3) := by decide +kernel
theorem dX7_next_24 : decode cX7_next 24 = .ok (.iconst 0, 1) := by decide +kernel
theorem dX7_next_25 : decode cX7_next 25 = .ok (.invokevirtual 79, 3) := by decide +kernel
theorem dX7_next_28 : decode cX7_next 28 = .ok (.ifCond .ne 5, 3) := by decide +kernel
theorem dX7_next_31 : decode cX7_next 31 = .ok (.iconst 0, 1) := by decide +kernel
theorem dX7_next_32 : decode cX7_next 32 = .ok (.ireturn, 1) := by decide +kernel
theorem dX7_next_33 : decode cX7_next 33 = .ok (.aload_n 0, 1) := by decide +kernel
theorem dX7_next_34 : decode cX7_next 34 = .ok (.invokevirtual 83, 3) := by decide +kernel
theorem dX7_next_37 : decode cX7_next 37 = .ok (.aload_n 0, 1) := by decide +kernel
theorem dX7_next_38 : decode cX7_next 38 = .ok (.iload_n 1, 1) := by decide +kernel
theorem dX7_next_39 : decode cX7_next 39 = .ok (.invokevirtual 104, 3) := by decide +kernel
theorem dX7_next_42 : decode cX7_next 42 = .ok (.istore_n 2, 1) := by decide +kernel
theorem dX7_next_43 : decode cX7_next 43 = .ok (.iload_n 2, 1) := by decide +kernel
theorem dX7_next_44 : decode cX7_next 44 = .ok (.aload_n 0, 1) := by decide +kernel
theorem dX7_next_45 : decode cX7_next 45 = .ok (.getfield 7, 3) := by decide +kernel
theorem dX7_next_48 : decode cX7_next 48 = .ok (.iconst 0, 1) := by decide +kernel
theorem dX7_next_49 : decode cX7_next 49 = .ok (.iaload, 1) := by decide +kernel
theorem dX7_next_50 : decode cX7_next 50 = .ok (.if_icmp .ne 6, 3) := by decide +kernel
theorem dX7_next_53 : decode cX7_next 53 = .ok (.bipush (-2), 2) := by decide +kernel
theorem dX7_next_55 : decode cX7_next 55 = .ok (.ireturn, 1) := by decide +kernel
theorem dX7_next_56 : decode cX7_next 56 = .ok (.aload_n 0, 1) := by decide +kernel
theorem dX7_next_57 : decode cX7_next 57 = .ok (.getfield 7, 3) := by decide +kernel
theorem dX7_next_60 : decode cX7_next 60 = .ok (.iconst 4, 1) := by decide +kernel
theorem dX7_next_61 : decode cX7_next 61 = .ok (.iload_n 1, 1) := by decide +kernel
theorem dX7_next_62 : decode cX7_next 62 = .ok (.iadd, 1) := by decide +kernel
theorem dX7_next_63 : decode cX7_next 63 = .ok (.aload_n 0, 1) := by decide +kernel
theorem dX7_next_64 : decode cX7_next 64 = .ok (.iload_n 2, 1) := by decide +kernel
theorem dX7_next_65 : decode cX7_next 65 = .ok (.invokevirtual 45, 3) := by decide +kernel
theorem dX7_next_68 : decode cX7_next 68 = .ok (.iastore, 1) := by decide +kernel
theorem dX7_next_69 : decode cX7_next 69 = .ok (.aload_n 0, 1) := by decide +kernel
theorem dX7_next_70 : decode cX7_next 70 = .ok (.iload_n 2, 1) := by decide +kernel
theorem dX7_next_71 : decode cX7_next 71 = .ok (.iconst 0, 1) := by decide +kernel
theorem dX7_next_72 : decode cX7_next 72 = .ok (.invokevirtual 24, 3) := by decide +kernel
theorem dX7_next_75 : decode cX7_next 75 = .ok (.ireturn, 1) := by decide +kernel
set_option maxRecDepth 20000 in
theorem ggX7_readLeaf_X7_isReader : GoodIn wsX7_readLeaf wsX7_isReader := goodIn_r _ [5, 6, 7, 4, 8] (by decide +kernel) (by decide +kernel)
set_option maxRecDepth 20000 in
theorem gX7_readLeaf_X7_isReader : GoodIn wsX7_readLeaf (va_wsS RX7 95 yX7_isReader wsX7_isReader) := goodIn_app (goodIn_of _ (by decide +kernel)) ggX7_readLeaf_X7_isReader
set_option maxRecDepth 20000 in
theorem ggX7_readLeaf_X7_isOpen : GoodIn wsX7_readLeaf wsX7_isOpen := goodIn_r _ [12, 1, 2, 3, 4, 5, 6, 7, 8, 43, 44, 45, 46, 47, 48, 49, 50, 51, 52, 53, 54] (by decide +kernel) (by decide +kernel)
set_option maxRecDepth 20000 in
theorem gX7_readLeaf_X7_isOpen : GoodIn wsX7_readLeaf (wsV RX7 98 RX7 yX7_isOpen wsX7_isOpen) := goodIn_app (goodIn_of _ (by decide +kernel)) ggX7_readLeaf_X7_isOpen
set_option maxRecDepth 20000 in
theorem ggX7_readLeaf_X7_holds : GoodIn wsX7_readLeaf wsX7_holds := goodIn_r _ [16, 17, 43, 44, 45, 46, 47, 48, 49, 50, 51, 52, 53, 54] (by decide +kernel) (by decide +kernel)
set_option maxRecDepth 20000 in
theorem gX7_readLeaf_X7_holds : GoodIn wsX7_readLeaf (wsV RX7 79 RX7 yX7_holds wsX7_holds) := goodIn_app (goodIn_of _ (by decide +kernel)) ggX7_readLeaf_X7_holds
set_option maxRecDepth 20000 in
theorem ggX7_readLeaf_X7_keeps : GoodIn wsX7_readLeaf wsX7_keeps := goodIn_r _ [21, 22, 23, 24, 25, 4, 26, 1, 43, 44, 45, 46, 47, 48, 49, 50, 51, 52, 53, 54] (by decide +kernel) (by decide +kernel)
set_option maxRecDepth 20000 in
theorem gX7_readLeaf_X7_keeps : GoodIn wsX7_readLeaf (wsV RX7 83 RX7 yX7_keeps wsX7_keeps) := goodIn_app (goodIn_of _ (by decide +kernel)) ggX7_readLeaf_X7_keeps
set_option maxRecDepth 20000 in
theorem ggX7_readLeaf_X7_nextPlace : GoodIn wsX7_readLeaf wsX7_nextPlace := goodIn_r _ [30, 1, 31, 32, 33, 4, 34, 35, 36, 37, 38, 43, 44, 45, 46, 47, 48, 49, 50, 51, 52, 53, 54] (by decide +kernel) (by decide +kernel)
set_option maxRecDepth 20000 in
theorem gX7_readLeaf_X7_nextPlace : GoodIn wsX7_readLeaf (wsV RX7 104 RX7 yX7_nextPlace wsX7_nextPlace) := goodIn_app (goodIn_of _ (by decide +kernel)) ggX7_readLeaf_X7_nextPlace
set_option maxRecDepth 20000 in
theorem ggX7_readLeaf_X7_of : GoodIn wsX7_readLeaf wsX7_of := goodIn_r _ [38, 1, 43, 44, 45, 46, 47, 48, 49, 50, 51, 52, 53, 54] (by decide +kernel) (by decide +kernel)
set_option maxRecDepth 20000 in
theorem gX7_readLeaf_X7_of : GoodIn wsX7_readLeaf (wsV RX7 24 RX7 yX7_of wsX7_of) := goodIn_app (goodIn_of _ (by decide +kernel)) ggX7_readLeaf_X7_of
set_option maxRecDepth 20000 in
theorem ggX7_readLeaf_X7_depthAt : GoodIn wsX7_readLeaf wsX7_depthAt := goodIn_r _ [42, 1, 43, 44, 45, 46, 47, 48, 49, 50, 51, 52, 53, 54] (by decide +kernel) (by decide +kernel)
set_option maxRecDepth 20000 in
theorem gX7_readLeaf_X7_depthAt : GoodIn wsX7_readLeaf (wsV RX7 28 RX7 yX7_depthAt wsX7_depthAt) := goodIn_app (goodIn_of _ (by decide +kernel)) ggX7_readLeaf_X7_depthAt
set_option maxRecDepth 20000 in
theorem ggX7_readLeaf_X7_keyAt : GoodIn wsX7_readLeaf wsX7_keyAt := goodIn_r _ [34, 35, 36, 37, 4, 38, 1, 43, 44, 45, 46, 47, 48, 49, 50, 51, 52, 53, 54] (by decide +kernel) (by decide +kernel)
set_option maxRecDepth 20000 in
theorem gX7_readLeaf_X7_keyAt : GoodIn wsX7_readLeaf (wsV RX7 45 RX7 yX7_keyAt wsX7_keyAt) := goodIn_app (goodIn_of _ (by decide +kernel)) ggX7_readLeaf_X7_keyAt
theorem dX7_readLeaf_0 : decode cX7_readLeaf 0 = .ok (.aload_n 0, 1) := by decide +kernel
theorem dX7_readLeaf_1 : decode cX7_readLeaf 1 = .ok (.iload_n 1, 1) := by decide +kernel
theorem dX7_readLeaf_2 : decode cX7_readLeaf 2 = .ok (.invokestatic 95, 3) := by decide +kernel
theorem dX7_readLeaf_5 : decode cX7_readLeaf 5 = .ok (.ifCond .ne 7, 3) := by decide +kernel
theorem dX7_readLeaf_8 : decode cX7_readLeaf 8 = .ok (.iconst 1, 1) := by decide +kernel
theorem dX7_readLeaf_9 : decode cX7_readLeaf 9 = .ok (.goto 16, 3) := by decide +kernel
theorem dX7_readLeaf_12 : decode cX7_readLeaf 12 = .ok (.aload_n 0, 1) := by decide +kernel
theorem dX7_readLeaf_13 : decode cX7_readLeaf 13 = .ok (.iload_n 1, 1) := by decide +kernel
theorem dX7_readLeaf_14 : decode cX7_readLeaf 14 = .ok (.invokevirtual 98, 3) := by decide +kernel
theorem dX7_readLeaf_17 : decode cX7_readLeaf 17 = .ok (.ifCond .ne 7, 3) := by decide +kernel
theorem dX7_readLeaf_20 : decode cX7_readLeaf 20 = .ok (.iconst 2, 1) := by decide +kernel
theorem dX7_readLeaf_21 : decode cX7_readLeaf 21 = .ok (.goto 4, 3) := by decide +kernel
theorem dX7_readLeaf_24 : decode cX7_readLeaf 24 = .ok (.iconst 0, 1) := by decide +kernel
theorem dX7_readLeaf_25 : decode cX7_readLeaf 25 = .ok (.invokevirtual 79, 3) := by decide +kernel
theorem dX7_readLeaf_28 : decode cX7_readLeaf 28 = .ok (.ifCond .ne 5, 3) := by decide +kernel
theorem dX7_readLeaf_31 : decode cX7_readLeaf 31 = .ok (.iconst 0, 1) := by decide +kernel
theorem dX7_readLeaf_32 : decode cX7_readLeaf 32 = .ok (.ireturn, 1) := by decide +kernel
theorem dX7_readLeaf_33 : decode cX7_readLeaf 33 = .ok (.aload_n 0, 1) := by decide +kernel
theorem dX7_readLeaf_34 : decode cX7_readLeaf 34 = .ok (.invokevirtual 83, 3) := by decide +kernel
theorem dX7_readLeaf_37 : decode cX7_readLeaf 37 = .ok (.aload_n 0, 1) := by decide +kernel
theorem dX7_readLeaf_38 : decode cX7_readLeaf 38 = .ok (.iload_n 1, 1) := by decide +kernel
theorem dX7_readLeaf_39 : decode cX7_readLeaf 39 = .ok (.invokevirtual 104, 3) := by decide +kernel
theorem dX7_readLeaf_42 : decode cX7_readLeaf 42 = .ok (.istore_n 2, 1) := by decide +kernel
theorem dX7_readLeaf_43 : decode cX7_readLeaf 43 = .ok (.iload_n 2, 1) := by decide +kernel
theorem dX7_readLeaf_44 : decode cX7_readLeaf 44 = .ok (.aload_n 0, 1) := by decide +kernel
theorem dX7_readLeaf_45 : decode cX7_readLeaf 45 = .ok (.getfield 7, 3) := by decide +kernel
theorem dX7_readLeaf_48 : decode cX7_readLeaf 48 = .ok (.iconst 0, 1) := by decide +kernel
theorem dX7_readLeaf_49 : decode cX7_readLeaf 49 = .ok (.iaload, 1) := by decide +kernel
theorem dX7_readLeaf_50 : decode cX7_readLeaf 50 = .ok (.if_icmp .ne 5, 3) := by decide +kernel
theorem dX7_readLeaf_53 : decode cX7_readLeaf 53 = .ok (.iconst 0, 1) := by decide +kernel
theorem dX7_readLeaf_54 : decode cX7_readLeaf 54 = .ok (.ireturn, 1) := by decide +kernel
theorem dX7_readLeaf_55 : decode cX7_readLeaf 55 = .ok (.aload_n 0, 1) := by decide +kernel
theorem dX7_readLeaf_56 : decode cX7_readLeaf 56 = .ok (.iload_n 2, 1) := by decide +kernel
theorem dX7_readLeaf_57 : decode cX7_readLeaf 57 = .ok (.iconst 1, 1) := by decide +kernel
theorem dX7_readLeaf_58 : decode cX7_readLeaf 58 = .ok (.invokevirtual 24, 3) := by decide +kernel
theorem dX7_readLeaf_61 : decode cX7_readLeaf 61 = .ok (.istore_n 3, 1) := by decide +kernel
theorem dX7_readLeaf_62 : decode cX7_readLeaf 62 = .ok (.bipush 6, 2) := by decide +kernel
theorem dX7_readLeaf_64 : decode cX7_readLeaf 64 = .ok (.aload_n 0, 1) := by decide +kernel
theorem dX7_readLeaf_65 : decode cX7_readLeaf 65 = .ok (.iload_n 3, 1) := by decide +kernel
theorem dX7_readLeaf_66 : decode cX7_readLeaf 66 = .ok (.invokevirtual 28, 3) := by decide +kernel
theorem dX7_readLeaf_69 : decode cX7_readLeaf 69 = .ok (.isub, 1) := by decide +kernel
theorem dX7_readLeaf_70 : decode cX7_readLeaf 70 = .ok (.istore 4, 2) := by decide +kernel
theorem dX7_readLeaf_72 : decode cX7_readLeaf 72 = .ok (.iload_n 2, 1) := by decide +kernel
theorem dX7_readLeaf_73 : decode cX7_readLeaf 73 = .ok (.istore 5, 2) := by decide +kernel
theorem dX7_readLeaf_75 : decode cX7_readLeaf 75 = .ok (.iload 5, 2) := by decide +kernel
theorem dX7_readLeaf_77 : decode cX7_readLeaf 77 = .ok (.aload_n 0, 1) := by decide +kernel
theorem dX7_readLeaf_78 : decode cX7_readLeaf 78 = .ok (.getfield 7, 3) := by decide +kernel
theorem dX7_readLeaf_81 : decode cX7_readLeaf 81 = .ok (.iconst 0, 1) := by decide +kernel
theorem dX7_readLeaf_82 : decode cX7_readLeaf 82 = .ok (.iaload, 1) := by decide +kernel
theorem dX7_readLeaf_83 : decode cX7_readLeaf 83 = .ok (.if_icmp .ge 40, 3) := by decide +kernel
theorem dX7_readLeaf_86 : decode cX7_readLeaf 86 = .ok (.aload_n 0, 1) := by decide +kernel
theorem dX7_readLeaf_87 : decode cX7_readLeaf 87 = .ok (.iload 5, 2) := by decide +kernel
theorem dX7_readLeaf_89 : decode cX7_readLeaf 89 = .ok (.iconst 1, 1) := by decide +kernel
theorem dX7_readLeaf_90 : decode cX7_readLeaf 90 = .ok (.invokevirtual 24, 3) := by decide +kernel
theorem dX7_readLeaf_93 : decode cX7_readLeaf 93 = .ok (.iload 4, 2) := by decide +kernel
theorem dX7_readLeaf_95 : decode cX7_readLeaf 95 = .ok (.ishr, 1) := by decide +kernel
theorem dX7_readLeaf_96 : decode cX7_readLeaf 96 = .ok (.iload_n 3, 1) := by decide +kernel
theorem dX7_readLeaf_97 : decode cX7_readLeaf 97 = .ok (.iload 4, 2) := by decide +kernel
theorem dX7_readLeaf_99 : decode cX7_readLeaf 99 = .ok (.ishr, 1) := by decide +kernel
theorem dX7_readLeaf_100 : decode cX7_readLeaf 100 = .ok (.if_icmp .ne 23, 3) := by decide +kernel
theorem dX7_readLeaf_103 : decode cX7_readLeaf 103 = .ok (.aload_n 0, 1) := by decide +kernel
theorem dX7_readLeaf_104 : decode cX7_readLeaf 104 = .ok (.getfield 7, 3) := by decide +kernel
theorem dX7_readLeaf_107 : decode cX7_readLeaf 107 = .ok (.iconst 4, 1) := by decide +kernel
theorem dX7_readLeaf_108 : decode cX7_readLeaf 108 = .ok (.iload_n 1, 1) := by decide +kernel
theorem dX7_readLeaf_109 : decode cX7_readLeaf 109 = .ok (.iadd, 1) := by decide +kernel
theorem dX7_readLeaf_110 : decode cX7_readLeaf 110 = .ok (.aload_n 0, 1) := by decide +kernel
theorem dX7_readLeaf_111 : decode cX7_readLeaf 111 = .ok (.iload 5, 2) := by decide +kernel
theorem dX7_readLeaf_113 : decode cX7_readLeaf 113 = .ok (.invokevirtual 45, 3) := by decide +kernel
theorem dX7_readLeaf_116 : decode cX7_readLeaf 116 = .ok (.iastore, 1) := by decide +kernel
theorem dX7_readLeaf_117 : decode cX7_readLeaf 117 = .ok (.iinc 5 1, 3) := by decide +kernel
theorem dX7_readLeaf_120 : decode cX7_readLeaf 120 = .ok (.goto (-45), 3) := by decide +kernel
theorem dX7_readLeaf_123 : decode cX7_readLeaf 123 = .ok (.iload 5, 2) := by decide +kernel
theorem dX7_readLeaf_125 : decode cX7_readLeaf 125 = .ok (.iload_n 2, 1) := by decide +kernel
theorem dX7_readLeaf_126 : decode cX7_readLeaf 126 = .ok (.isub, 1) := by decide +kernel
theorem dX7_readLeaf_127 : decode cX7_readLeaf 127 = .ok (.ireturn, 1) := by decide +kernel
set_option maxRecDepth 20000 in
theorem ggX7_seek_X7_in : GoodIn wsX7_seek wsX7_in := goodIn_r _ [5] (by decide +kernel) (by decide +kernel)
set_option maxRecDepth 20000 in
theorem gX7_seek_X7_in : GoodIn wsX7_seek (va_wsS RX7 68 yX7_in wsX7_in) := goodIn_app (goodIn_of _ (by decide +kernel)) ggX7_seek_X7_in
set_option maxRecDepth 20000 in
theorem ggX7_seek_X7_isReader : GoodIn wsX7_seek wsX7_isReader := goodIn_r _ [8, 2, 3, 4, 5] (by decide +kernel) (by decide +kernel)
set_option maxRecDepth 20000 in
theorem gX7_seek_X7_isReader : GoodIn wsX7_seek (va_wsS RX7 95 yX7_isReader wsX7_isReader) := goodIn_app (goodIn_of _ (by decide +kernel)) ggX7_seek_X7_isReader
set_option maxRecDepth 20000 in
theorem ggX7_seek_X7_isOpen : GoodIn wsX7_seek wsX7_isOpen := goodIn_r _ [12, 13, 6, 7, 4, 8, 2, 3, 5, 32, 33, 34, 35, 36, 37, 38, 39, 40, 41, 42, 43] (by decide +kernel) (by decide +kernel)
set_option maxRecDepth 20000 in
theorem gX7_seek_X7_isOpen : GoodIn wsX7_seek (wsV RX7 98 RX7 yX7_isOpen wsX7_isOpen) := goodIn_app (goodIn_of _ (by decide +kernel)) ggX7_seek_X7_isOpen
set_option maxRecDepth 20000 in
theorem ggX7_seek_X7_holds : GoodIn wsX7_seek wsX7_holds := goodIn_r _ [17, 18, 32, 33, 34, 35, 36, 37, 38, 39, 40, 41, 42, 43] (by decide +kernel) (by decide +kernel)
set_option maxRecDepth 20000 in
theorem gX7_seek_X7_holds : GoodIn wsX7_seek (wsV RX7 79 RX7 yX7_holds wsX7_holds) := goodIn_app (goodIn_of _ (by decide +kernel)) ggX7_seek_X7_holds
set_option maxRecDepth 20000 in
theorem ggX7_seek_X7_moves : GoodIn wsX7_seek wsX7_moves := goodIn_r _ [22, 13, 23, 24, 25, 4, 26, 27, 28, 29, 30, 31, 32, 33, 34, 35, 36, 37, 38, 39, 40, 41, 42, 43] (by decide +kernel) (by decide +kernel)
set_option maxRecDepth 20000 in
theorem gX7_seek_X7_moves : GoodIn wsX7_seek (wsV RX7 101 RX7 yX7_moves wsX7_moves) := goodIn_app (goodIn_of _ (by decide +kernel)) ggX7_seek_X7_moves
theorem dX7_seek_0 : decode cX7_seek 0 = .ok (.iload_n 2, 1) := by decide +kernel
theorem dX7_seek_1 : decode cX7_seek 1 = .ok (.iconst (-1), 1) := by decide +kernel
theorem dX7_seek_2 : decode cX7_seek 2 = .ok (.ldc 107, 2) := by decide +kernel
theorem dX7_seek_4 : decode cX7_seek 4 = .ok (.invokestatic 68, 3) := by decide +kernel
theorem dX7_seek_7 : decode cX7_seek 7 = .ok (.istore_n 3, 1) := by decide +kernel
theorem dX7_seek_8 : decode cX7_seek 8 = .ok (.aload_n 0, 1) := by decide +kernel
theorem dX7_seek_9 : decode cX7_seek 9 = .ok (.iload_n 1, 1) := by decide +kernel
theorem dX7_seek_10 : decode cX7_seek 10 = .ok (.invokestatic 95, 3) := by decide +kernel
theorem dX7_seek_13 : decode cX7_seek 13 = .ok (.ifCond .ne 7, 3) := by decide +kernel
theorem dX7_seek_16 : decode cX7_seek 16 = .ok (.iconst 1, 1) := by decide +kernel
theorem dX7_seek_17 : decode cX7_seek 17 = .ok (.goto 24, 3) := by decide +kernel
theorem dX7_seek_20 : decode cX7_seek 20 = .ok (.iload_n 3, 1) := by decide +kernel
theorem dX7_seek_21 : decode cX7_seek 21 = .ok (.ifCond .ne 7, 3) := by decide +kernel
theorem dX7_seek_24 : decode cX7_seek 24 = .ok (.iconst 2, 1) := by decide +kernel
theorem dX7_seek_25 : decode cX7_seek 25 = .ok (.goto 16, 3) := by decide +kernel
theorem dX7_seek_28 : decode cX7_seek 28 = .ok (.aload_n 0, 1) := by decide +kernel
theorem dX7_seek_29 : decode cX7_seek 29 = .ok (.iload_n 1, 1) := by decide +kernel
theorem dX7_seek_30 : decode cX7_seek 30 = .ok (.invokevirtual 98, 3) := by decide +kernel
theorem dX7_seek_33 : decode cX7_seek 33 = .ok (.ifCond .ne 7, 3) := by decide +kernel
theorem dX7_seek_36 : decode cX7_seek 36 = .ok (.iconst 3, 1) := by decide +kernel
theorem dX7_seek_37 : decode cX7_seek 37 = .ok (.goto 4, 3) := by decide +kernel
theorem dX7_seek_40 : decode cX7_seek 40 = .ok (.iconst 0, 1) := by decide +kernel
theorem dX7_seek_41 : decode cX7_seek 41 = .ok (.invokevirtual 79, 3) := by decide +kernel
theorem dX7_seek_44 : decode cX7_seek 44 = .ok (.ifCond .eq 12, 3) := by decide +kernel
theorem dX7_seek_47 : decode cX7_seek 47 = .ok (.aload_n 0, 1) := by decide +kernel
theorem dX7_seek_48 : decode cX7_seek 48 = .ok (.iload_n 1, 1) := by decide +kernel
theorem dX7_seek_49 : decode cX7_seek 49 = .ok (.iload_n 2, 1) := by decide +kernel
theorem dX7_seek_50 : decode cX7_seek 50 = .ok (.invokevirtual 101, 3) := by decide +kernel
theorem dX7_seek_53 : decode cX7_seek 53 = .ok (.goto 4, 3) := by decide +kernel
theorem dX7_seek_56 : decode cX7_seek 56 = .ok (.iconst 0, 1) := by decide +kernel
theorem dX7_seek_57 : decode cX7_seek 57 = .ok (.ireturn, 1) := by decide +kernel
set_option maxRecDepth 20000 in
theorem ggX7_appendText_X7_in : GoodIn wsX7_appendText wsX7_in := goodIn_r _ [6] (by decide +kernel) (by decide +kernel)
set_option maxRecDepth 20000 in
theorem gX7_appendText_X7_in : GoodIn wsX7_appendText (va_wsS RX7 68 yX7_in wsX7_in) := goodIn_app (goodIn_of _ (by decide +kernel)) ggX7_appendText_X7_in
set_option maxRecDepth 20000 in
theorem ggX7_appendText_X7_holds : GoodIn wsX7_appendText wsX7_holds := goodIn_r _ [10, 11, 12, 13, 14, 15, 16, 17, 18, 19, 20, 21, 22, 23] (by decide +kernel) (by decide +kernel)
set_option maxRecDepth 20000 in
theorem gX7_appendText_X7_holds : GoodIn wsX7_appendText (wsV RX7 79 RX7 yX7_holds wsX7_holds) := goodIn_app (goodIn_of _ (by decide +kernel)) ggX7_appendText_X7_holds
theorem dX7_appendText_0 : decode cX7_appendText 0 = .ok (.aload_n 0, 1) := by decide +kernel
theorem dX7_appendText_1 : decode cX7_appendText 1 = .ok (.iload_n 1, 1) := by decide +kernel
theorem dX7_appendText_2 : decode cX7_appendText 2 = .ok (.bipush 32, 2) := by decide +kernel
theorem dX7_appendText_4 : decode cX7_appendText 4 = .ok (.bipush 126, 2) := by decide +kernel
theorem dX7_appendText_6 : decode cX7_appendText 6 = .ok (.invokestatic 68, 3) := by decide +kernel
theorem dX7_appendText_9 : decode cX7_appendText 9 = .ok (.ifCond .ne 7, 3) := by decide +kernel
theorem dX7_appendText_12 : decode cX7_appendText 12 = .ok (.iconst 1, 1) := by decide +kernel
theorem dX7_appendText_13 : decode cX7_appendText 13 = .ok (.goto 17, 3) := by decide +kernel
theorem dX7_appendText_16 : decode cX7_appendText 16 = .ok (.aload_n 0, 1) := by decide +kernel
theorem dX7_appendText_17 : decode cX7_appendText 17 = .ok (.getfield 65, 3) := by decide +kernel
theorem dX7_appendText_20 : decode cX7_appendText 20 = .ok (.bipush 80, 2) := by decide +kernel
theorem dX7_appendText_22 : decode cX7_appendText 22 = .ok (.if_icmp .ne 7, 3) := by decide +kernel
theorem dX7_appendText_25 : decode cX7_appendText 25 = .ok (.iconst 2, 1) := by decide +kernel
theorem dX7_appendText_26 : decode cX7_appendText 26 = .ok (.goto 4, 3) := by decide +kernel
theorem dX7_appendText_29 : decode cX7_appendText 29 = .ok (.iconst 0, 1) := by decide +kernel
theorem dX7_appendText_30 : decode cX7_appendText 30 = .ok (.invokevirtual 79, 3) := by decide +kernel
theorem dX7_appendText_33 : decode cX7_appendText 33 = .ok (.ifCond .ne 5, 3) := by decide +kernel
theorem dX7_appendText_36 : decode cX7_appendText 36 = .ok (.iconst 0, 1) := by decide +kernel
theorem dX7_appendText_37 : decode cX7_appendText 37 = .ok (.ireturn, 1) := by decide +kernel
theorem dX7_appendText_38 : decode cX7_appendText 38 = .ok (.aload_n 0, 1) := by decide +kernel
theorem dX7_appendText_39 : decode cX7_appendText 39 = .ok (.getfield 17, 3) := by decide +kernel
theorem dX7_appendText_42 : decode cX7_appendText 42 = .ok (.aload_n 0, 1) := by decide +kernel
theorem dX7_appendText_43 : decode cX7_appendText 43 = .ok (.getfield 65, 3) := by decide +kernel
theorem dX7_appendText_46 : decode cX7_appendText 46 = .ok (.iload_n 1, 1) := by decide +kernel
theorem dX7_appendText_47 : decode cX7_appendText 47 = .ok (.iastore, 1) := by decide +kernel
theorem dX7_appendText_48 : decode cX7_appendText 48 = .ok (.aload_n 0, 1) := by decide +kernel
theorem dX7_appendText_49 : decode cX7_appendText 49 = .ok (.dup, 1) := by decide +kernel
theorem dX7_appendText_50 : decode cX7_appendText 50 = .ok (.getfield 65, 3) := by decide +kernel
theorem dX7_appendText_53 : decode cX7_appendText 53 = .ok (.iconst 1, 1) := by decide +kernel
theorem dX7_appendText_54 : decode cX7_appendText 54 = .ok (.iadd, 1) := by decide +kernel
theorem dX7_appendText_55 : decode cX7_appendText 55 = .ok (.putfield 65, 3) := by decide +kernel
theorem dX7_appendText_58 : decode cX7_appendText 58 = .ok (.aload_n 0, 1) := by decide +kernel
theorem dX7_appendText_59 : decode cX7_appendText 59 = .ok (.getfield 65, 3) := by decide +kernel
theorem dX7_appendText_62 : decode cX7_appendText 62 = .ok (.ireturn, 1) := by decide +kernel
theorem dX7_clearText_0 : decode cX7_clearText 0 = .ok (.aload_n 0, 1) := by decide +kernel
theorem dX7_clearText_1 : decode cX7_clearText 1 = .ok (.iconst 0, 1) := by decide +kernel
theorem dX7_clearText_2 : decode cX7_clearText 2 = .ok (.putfield 20, 3) := by decide +kernel
theorem dX7_clearText_5 : decode cX7_clearText 5 = .ok (.aload_n 0, 1) := by decide +kernel
theorem dX7_clearText_6 : decode cX7_clearText 6 = .ok (.getfield 65, 3) := by decide +kernel
theorem dX7_clearText_9 : decode cX7_clearText 9 = .ok (.istore_n 1, 1) := by decide +kernel
theorem dX7_clearText_10 : decode cX7_clearText 10 = .ok (.aload_n 0, 1) := by decide +kernel
theorem dX7_clearText_11 : decode cX7_clearText 11 = .ok (.iconst 0, 1) := by decide +kernel
theorem dX7_clearText_12 : decode cX7_clearText 12 = .ok (.putfield 65, 3) := by decide +kernel
theorem dX7_clearText_15 : decode cX7_clearText 15 = .ok (.iload_n 1, 1) := by decide +kernel
theorem dX7_clearText_16 : decode cX7_clearText 16 = .ok (.ireturn, 1) := by decide +kernel
theorem dX7_takes_0 : decode cX7_takes 0 = .ok (.aload_n 0, 1) := by decide +kernel
theorem dX7_takes_1 : decode cX7_takes 1 = .ok (.getfield 108, 3) := by decide +kernel
theorem dX7_takes_4 : decode cX7_takes 4 = .ok (.aload_n 0, 1) := by decide +kernel
theorem dX7_takes_5 : decode cX7_takes 5 = .ok (.getfield 65, 3) := by decide +kernel
theorem dX7_takes_8 : decode cX7_takes 8 = .ok (.if_icmp .ge 20, 3) := by decide +kernel
theorem dX7_takes_11 : decode cX7_takes 11 = .ok (.aload_n 0, 1) := by decide +kernel
theorem dX7_takes_12 : decode cX7_takes 12 = .ok (.getfield 17, 3) := by decide +kernel
theorem dX7_takes_15 : decode cX7_takes 15 = .ok (.aload_n 0, 1) := by decide +kernel
theorem dX7_takes_16 : decode cX7_takes 16 = .ok (.getfield 108, 3) := by decide +kernel
theorem dX7_takes_19 : decode cX7_takes 19 = .ok (.iaload, 1) := by decide +kernel
theorem dX7_takes_20 : decode cX7_takes 20 = .ok (.iload_n 1, 1) := by decide +kernel
theorem dX7_takes_21 : decode cX7_takes 21 = .ok (.if_icmp .ne 7, 3) := by decide +kernel
theorem dX7_takes_24 : decode cX7_takes 24 = .ok (.iconst 1, 1) := by decide +kernel
theorem dX7_takes_25 : decode cX7_takes 25 = .ok (.goto 4, 3) := by decide +kernel
theorem dX7_takes_28 : decode cX7_takes 28 = .ok (.iconst 0, 1) := by decide +kernel
theorem dX7_takes_29 : decode cX7_takes 29 = .ok (.istore_n 2, 1) := by decide +kernel
theorem dX7_takes_30 : decode cX7_takes 30 = .ok (.aload_n 0, 1) := by decide +kernel
theorem dX7_takes_31 : decode cX7_takes 31 = .ok (.dup, 1) := by decide +kernel
theorem dX7_takes_32 : decode cX7_takes 32 = .ok (.getfield 108, 3) := by decide +kernel
theorem dX7_takes_35 : decode cX7_takes 35 = .ok (.iload_n 2, 1) := by decide +kernel
theorem dX7_takes_36 : decode cX7_takes 36 = .ok (.ifCond .eq 7, 3) := by decide +kernel
theorem dX7_takes_39 : decode cX7_takes 39 = .ok (.iconst 1, 1) := by decide +kernel
theorem dX7_takes_40 : decode cX7_takes 40 = .ok (.goto 4, 3) := by decide +kernel
theorem dX7_takes_43 : decode cX7_takes 43 = .ok (.iconst 0, 1) := by decide +kernel
theorem dX7_takes_44 : decode cX7_takes 44 = .ok (.iadd, 1) := by decide +kernel
theorem dX7_takes_45 : decode cX7_takes 45 = .ok (.putfield 108, 3) := by decide +kernel
theorem dX7_takes_48 : decode cX7_takes 48 = .ok (.iload_n 2, 1) := by decide +kernel
theorem dX7_takes_49 : decode cX7_takes 49 = .ok (.ireturn, 1) := by decide +kernel
set_option maxRecDepth 20000 in
theorem ggX7_readsName_X7_in : GoodIn wsX7_readsName wsX7_in := goodIn_r _ [7] (by decide +kernel) (by decide +kernel)
set_option maxRecDepth 20000 in
theorem gX7_readsName_X7_in : GoodIn wsX7_readsName (va_wsS RX7 68 yX7_in wsX7_in) := goodIn_app (goodIn_of _ (by decide +kernel)) ggX7_readsName_X7_in
theorem dX7_readsName_0 : decode cX7_readsName 0 = .ok (.iconst 0, 1) := by decide +kernel
theorem dX7_readsName_1 : decode cX7_readsName 1 = .ok (.istore_n 1, 1) := by decide +kernel
theorem dX7_readsName_2 : decode cX7_readsName 2 = .ok (.iload_n 1, 1) := by decide +kernel
theorem dX7_readsName_3 : decode cX7_readsName 3 = .ok (.bipush 6, 2) := by decide +kernel
theorem dX7_readsName_5 : decode cX7_readsName 5 = .ok (.if_icmp .ge 49, 3) := by decide +kernel
theorem dX7_readsName_8 : decode cX7_readsName 8 = .ok (.aload_n 0, 1) := by decide +kernel
theorem dX7_readsName_9 : decode cX7_readsName 9 = .ok (.getfield 108, 3) := by decide +kernel
theorem dX7_readsName_12 : decode cX7_readsName 12 = .ok (.aload_n 0, 1) := by decide +kernel
theorem dX7_readsName_13 : decode cX7_readsName 13 = .ok (.getfield 65, 3) := by decide +kernel
theorem dX7_readsName_16 : decode cX7_readsName 16 = .ok (.if_icmp .ge 38, 3) := by decide +kernel
theorem dX7_readsName_19 : decode cX7_readsName 19 = .ok (.aload_n 0, 1) := by decide +kernel
theorem dX7_readsName_20 : decode cX7_readsName 20 = .ok (.getfield 17, 3) := by decide +kernel
theorem dX7_readsName_23 : decode cX7_readsName 23 = .ok (.aload_n 0, 1) := by decide +kernel
theorem dX7_readsName_24 : decode cX7_readsName 24 = .ok (.getfield 108, 3) := by decide +kernel
theorem dX7_readsName_27 : decode cX7_readsName 27 = .ok (.iaload, 1) := by decide +kernel
theorem dX7_readsName_28 : decode cX7_readsName 28 = .ok (.bipush 97, 2) := by decide +kernel
theorem dX7_readsName_30 : decode cX7_readsName 30 = .ok (.bipush 122, 2) := by decide +kernel
theorem dX7_readsName_32 : decode cX7_readsName 32 = .ok (.invokestatic 68, 3) := by decide +kernel
theorem dX7_readsName_35 : decode cX7_readsName 35 = .ok (.ifCond .eq 19, 3) := by decide +kernel
theorem dX7_readsName_38 : decode cX7_readsName 38 = .ok (.aload_n 0, 1) := by decide +kernel
theorem dX7_readsName_39 : decode cX7_readsName 39 = .ok (.dup, 1) := by decide +kernel
theorem dX7_readsName_40 : decode cX7_readsName 40 = .ok (.getfield 108, 3) := by decide +kernel
theorem dX7_readsName_43 : decode cX7_readsName 43 = .ok (.iconst 1, 1) := by decide +kernel
theorem dX7_readsName_44 : decode cX7_readsName 44 = .ok (.iadd, 1) := by decide +kernel
theorem dX7_readsName_45 : decode cX7_readsName 45 = .ok (.putfield 108, 3) := by decide +kernel
theorem dX7_readsName_48 : decode cX7_readsName 48 = .ok (.iinc 1 1, 3) := by decide +kernel
theorem dX7_readsName_51 : decode cX7_readsName 51 = .ok (.goto (-49), 3) := by decide +kernel
theorem dX7_readsName_54 : decode cX7_readsName 54 = .ok (.iload_n 1, 1) := by decide +kernel
theorem dX7_readsName_55 : decode cX7_readsName 55 = .ok (.ireturn, 1) := by decide +kernel
set_option maxRecDepth 20000 in
theorem ggX7_readsCommand_X7_takes : GoodIn wsX7_readsCommand wsX7_takes := goodIn_r _ [13, 1, 2, 3, 21, 22, 23, 24, 25, 26, 27, 28, 29, 30, 31, 32] (by decide +kernel) (by decide +kernel)
set_option maxRecDepth 20000 in
theorem gX7_readsCommand_X7_takes : GoodIn wsX7_readsCommand (wsV RX7 114 RX7 yX7_takes wsX7_takes) := goodIn_app (goodIn_of _ (by decide +kernel)) ggX7_readsCommand_X7_takes
set_option maxRecDepth 20000 in
theorem ggX7_readsCommand_X7_readsName : GoodIn wsX7_readsCommand wsX7_readsName := goodIn_r _ [17, 1, 2, 3, 18, 19, 12, 20, 21, 22, 23, 24, 25, 26, 27, 28, 29, 30, 31, 32] (by decide +kernel) (by decide +kernel)
set_option maxRecDepth 20000 in
theorem gX7_readsCommand_X7_readsName : GoodIn wsX7_readsCommand (wsV RX7 120 RX7 yX7_readsName wsX7_readsName) := goodIn_app (goodIn_of _ (by decide +kernel)) ggX7_readsCommand_X7_readsName
theorem dX7_readsCommand_0 : decode cX7_readsCommand 0 = .ok (.aload_n 0, 1) := by decide +kernel
theorem dX7_readsCommand_1 : decode cX7_readsCommand 1 = .ok (.aload_n 0, 1) := by decide +kernel
theorem dX7_readsCommand_2 : decode cX7_readsCommand 2 = .ok (.getfield 108, 3) := by decide +kernel
theorem dX7_readsCommand_5 : decode cX7_readsCommand 5 = .ok (.aload_n 0, 1) := by decide +kernel
theorem dX7_readsCommand_6 : decode cX7_readsCommand 6 = .ok (.getfield 65, 3) := by decide +kernel
theorem dX7_readsCommand_9 : decode cX7_readsCommand 9 = .ok (.if_icmp .ge 15, 3) := by decide +kernel
theorem dX7_readsCommand_12 : decode cX7_readsCommand 12 = .ok (.aload_n 0, 1) := by decide +kernel
theorem dX7_readsCommand_13 : decode cX7_readsCommand 13 = .ok (.getfield 17, 3) := by decide +kernel
theorem dX7_readsCommand_16 : decode cX7_readsCommand 16 = .ok (.aload_n 0, 1) := by decide +kernel
theorem dX7_readsCommand_17 : decode cX7_readsCommand 17 = .ok (.getfield 108, 3) := by decide +kernel
theorem dX7_readsCommand_20 : decode cX7_readsCommand 20 = .ok (.iaload, 1) := by decide +kernel
theorem dX7_readsCommand_21 : decode cX7_readsCommand 21 = .ok (.goto 4, 3) := by decide +kernel
theorem dX7_readsCommand_24 : decode cX7_readsCommand 24 = .ok (.iconst 0, 1) := by decide +kernel
theorem dX7_readsCommand_25 : decode cX7_readsCommand 25 = .ok (.putfield 111, 3) := by decide +kernel
theorem dX7_readsCommand_28 : decode cX7_readsCommand 28 = .ok (.aload_n 0, 1) := by decide +kernel
theorem dX7_readsCommand_29 : decode cX7_readsCommand 29 = .ok (.bipush 43, 2) := by decide +kernel
theorem dX7_readsCommand_31 : decode cX7_readsCommand 31 = .ok (.invokevirtual 114, 3) := by decide +kernel
theorem dX7_readsCommand_34 : decode cX7_readsCommand 34 = .ok (.ifCond .ne 12, 3) := by decide +kernel
theorem dX7_readsCommand_37 : decode cX7_readsCommand 37 = .ok (.aload_n 0, 1) := by decide +kernel
theorem dX7_readsCommand_38 : decode cX7_readsCommand 38 = .ok (.bipush 45, 2) := by decide +kernel
theorem dX7_readsCommand_40 : decode cX7_readsCommand 40 = .ok (.invokevirtual 114, 3) := by decide +kernel
theorem dX7_readsCommand_43 : decode cX7_readsCommand 43 = .ok (.ifCond .eq 7, 3) := by decide +kernel
theorem dX7_readsCommand_46 : decode cX7_readsCommand 46 = .ok (.iconst 1, 1) := by decide +kernel
theorem dX7_readsCommand_47 : decode cX7_readsCommand 47 = .ok (.goto 4, 3) := by decide +kernel
theorem dX7_readsCommand_50 : decode cX7_readsCommand 50 = .ok (.iconst 0, 1) := by decide +kernel
theorem dX7_readsCommand_51 : decode cX7_readsCommand 51 = .ok (.istore_n 1, 1) := by decide +kernel
theorem dX7_readsCommand_52 : decode cX7_readsCommand 52 = .ok (.aload_n 0, 1) := by decide +kernel
theorem dX7_readsCommand_53 : decode cX7_readsCommand 53 = .ok (.aload_n 0, 1) := by decide +kernel
theorem dX7_readsCommand_54 : decode cX7_readsCommand 54 = .ok (.getfield 108, 3) := by decide +kernel
theorem dX7_readsCommand_57 : decode cX7_readsCommand 57 = .ok (.putfield 117, 3) := by decide +kernel
theorem dX7_readsCommand_60 : decode cX7_readsCommand 60 = .ok (.aload_n 0, 1) := by decide +kernel
theorem dX7_readsCommand_61 : decode cX7_readsCommand 61 = .ok (.aload_n 0, 1) := by decide +kernel
theorem dX7_readsCommand_62 : decode cX7_readsCommand 62 = .ok (.invokevirtual 120, 3) := by decide +kernel
theorem dX7_readsCommand_65 : decode cX7_readsCommand 65 = .ok (.putfield 124, 3) := by decide +kernel
theorem dX7_readsCommand_68 : decode cX7_readsCommand 68 = .ok (.iload_n 1, 1) := by decide +kernel
theorem dX7_readsCommand_69 : decode cX7_readsCommand 69 = .ok (.ifCond .ne 10, 3) := by decide +kernel
theorem dX7_readsCommand_72 : decode cX7_readsCommand 72 = .ok (.aload_n 0, 1) := by decide +kernel
theorem dX7_readsCommand_73 : decode cX7_readsCommand 73 = .ok (.getfield 124, 3) := by decide +kernel
theorem dX7_readsCommand_76 : decode cX7_readsCommand 76 = .ok (.ifCond .ne 20, 3) := by decide +kernel
theorem dX7_readsCommand_79 : decode cX7_readsCommand 79 = .ok (.iload_n 1, 1) := by decide +kernel
theorem dX7_readsCommand_80 : decode cX7_readsCommand 80 = .ok (.ifCond .eq 14, 3) := by decide +kernel
theorem dX7_readsCommand_83 : decode cX7_readsCommand 83 = .ok (.aload_n 0, 1) := by decide +kernel
theorem dX7_readsCommand_84 : decode cX7_readsCommand 84 = .ok (.getfield 124, 3) := by decide +kernel
theorem dX7_readsCommand_87 : decode cX7_readsCommand 87 = .ok (.ifCond .le 7, 3) := by decide +kernel
theorem dX7_readsCommand_90 : decode cX7_readsCommand 90 = .ok (.iconst 1, 1) := by decide +kernel
theorem dX7_readsCommand_91 : decode cX7_readsCommand 91 = .ok (.goto 4, 3) := by decide +kernel
theorem dX7_readsCommand_94 : decode cX7_readsCommand 94 = .ok (.iconst 0, 1) := by decide +kernel
theorem dX7_readsCommand_95 : decode cX7_readsCommand 95 = .ok (.ireturn, 1) := by decide +kernel
theorem dX7_readsCommand_96 : decode cX7_readsCommand 96 = .ok (.aload_n 0, 1) := by decide +kernel
theorem dX7_readsCommand_97 : decode cX7_readsCommand 97 = .ok (.bipush 61, 2) := by decide +kernel
theorem dX7_readsCommand_99 : decode cX7_readsCommand 99 = .ok (.putfield 111, 3) := by decide +kernel
theorem dX7_readsCommand_102 : decode cX7_readsCommand 102 = .ok (.aload_n 0, 1) := by decide +kernel
theorem dX7_readsCommand_103 : decode cX7_readsCommand 103 = .ok (.bipush 61, 2) := by decide +kernel
theorem dX7_readsCommand_105 : decode cX7_readsCommand 105 = .ok (.invokevirtual 114, 3) := by decide +kernel
theorem dX7_readsCommand_108 : decode cX7_readsCommand 108 = .ok (.ifCond .ne 5, 3) := by decide +kernel
theorem dX7_readsCommand_111 : decode cX7_readsCommand 111 = .ok (.iconst 0, 1) := by decide +kernel
theorem dX7_readsCommand_112 : decode cX7_readsCommand 112 = .ok (.ireturn, 1) := by decide +kernel
theorem dX7_readsCommand_113 : decode cX7_readsCommand 113 = .ok (.aload_n 0, 1) := by decide +kernel
theorem dX7_readsCommand_114 : decode cX7_readsCommand 114 = .ok (.aload_n 0, 1) := by decide +kernel
theorem dX7_readsCommand_115 : decode cX7_readsCommand 115 = .ok (.getfield 108, 3) := by decide +kernel
theorem dX7_readsCommand_118 : decode cX7_readsCommand 118 = .ok (.putfield 127, 3) := by decide +kernel
theorem dX7_readsCommand_121 : decode cX7_readsCommand 121 = .ok (.aload_n 0, 1) := by decide +kernel
theorem dX7_readsCommand_122 : decode cX7_readsCommand 122 = .ok (.aload_n 0, 1) := by decide +kernel
theorem dX7_readsCommand_123 : decode cX7_readsCommand 123 = .ok (.invokevirtual 120, 3) := by decide +kernel
theorem dX7_readsCommand_126 : decode cX7_readsCommand 126 = .ok (.putfield 130, 3) := by decide +kernel
theorem dX7_readsCommand_129 : decode cX7_readsCommand 129 = .ok (.aload_n 0, 1) := by decide +kernel
theorem dX7_readsCommand_130 : decode cX7_readsCommand 130 = .ok (.getfield 130, 3) := by decide +kernel
theorem dX7_readsCommand_133 : decode cX7_readsCommand 133 = .ok (.ifCond .le 7, 3) := by decide +kernel
theorem dX7_readsCommand_136 : decode cX7_readsCommand 136 = .ok (.iconst 1, 1) := by decide +kernel
theorem dX7_readsCommand_137 : decode cX7_readsCommand 137 = .ok (.goto 4, 3) := by decide +kernel
theorem dX7_readsCommand_140 : decode cX7_readsCommand 140 = .ok (.iconst 0, 1) := by decide +kernel
theorem dX7_readsCommand_141 : decode cX7_readsCommand 141 = .ok (.ireturn, 1) := by decide +kernel
set_option maxRecDepth 20000 in
theorem ggX7_areCommands_X7_readsCommand : GoodIn wsX7_areCommands wsX7_readsCommand := goodIn_r _ [7, 1, 2, 8, 9, 10, 11, 12, 13, 14, 15, 16, 6, 17, 18, 19, 20, 21, 22, 23, 24, 25, 26, 27, 28, 29, 30, 31, 32, 33, 34, 35, 36] (by decide +kernel) (by decide +kernel)
set_option maxRecDepth 20000 in
theorem gX7_areCommands_X7_readsCommand : GoodIn wsX7_areCommands (wsV RX7 133 RX7 yX7_readsCommand wsX7_readsCommand) := goodIn_app (goodIn_of _ (by decide +kernel)) ggX7_areCommands_X7_readsCommand
set_option maxRecDepth 20000 in
theorem ggX7_areCommands_X7_takes : GoodIn wsX7_areCommands wsX7_takes := goodIn_r _ [17, 1, 2, 8, 25, 26, 27, 28, 29, 30, 31, 32, 33, 34, 35, 36] (by decide +kernel) (by decide +kernel)
set_option maxRecDepth 20000 in
theorem gX7_areCommands_X7_takes : GoodIn wsX7_areCommands (wsV RX7 114 RX7 yX7_takes wsX7_takes) := goodIn_app (goodIn_of _ (by decide +kernel)) ggX7_areCommands_X7_takes
theorem dX7_areCommands_0 : decode cX7_areCommands 0 = .ok (.aload_n 0, 1) := by decide +kernel
theorem dX7_areCommands_1 : decode cX7_areCommands 1 = .ok (.iconst 0, 1) := by decide +kernel
theorem dX7_areCommands_2 : decode cX7_areCommands 2 = .ok (.putfield 108, 3) := by decide +kernel
theorem dX7_areCommands_5 : decode cX7_areCommands 5 = .ok (.aload_n 0, 1) := by decide +kernel
theorem dX7_areCommands_6 : decode cX7_areCommands 6 = .ok (.invokevirtual 133, 3) := by decide +kernel
theorem dX7_areCommands_9 : decode cX7_areCommands 9 = .ok (.ifCond .eq 27, 3) := by decide +kernel
theorem dX7_areCommands_12 : decode cX7_areCommands 12 = .ok (.aload_n 0, 1) := by decide +kernel
theorem dX7_areCommands_13 : decode cX7_areCommands 13 = .ok (.getfield 108, 3) := by decide +kernel
theorem dX7_areCommands_16 : decode cX7_areCommands 16 = .ok (.aload_n 0, 1) := by decide +kernel
theorem dX7_areCommands_17 : decode cX7_areCommands 17 = .ok (.getfield 65, 3) := by decide +kernel
theorem dX7_areCommands_20 : decode cX7_areCommands 20 = .ok (.if_icmp .ne 5, 3) := by decide +kernel
theorem dX7_areCommands_23 : decode cX7_areCommands 23 = .ok (.iconst 1, 1) := by decide +kernel
theorem dX7_areCommands_24 : decode cX7_areCommands 24 = .ok (.ireturn, 1) := by decide +kernel
theorem dX7_areCommands_25 : decode cX7_areCommands 25 = .ok (.aload_n 0, 1) := by decide +kernel
theorem dX7_areCommands_26 : decode cX7_areCommands 26 = .ok (.bipush 59, 2) := by decide +kernel
theorem dX7_areCommands_28 : decode cX7_areCommands 28 = .ok (.invokevirtual 114, 3) := by decide +kernel
theorem dX7_areCommands_31 : decode cX7_areCommands 31 = .ok (.ifCond .ne (-26), 3) := by decide +kernel
theorem dX7_areCommands_34 : decode cX7_areCommands 34 = .ok (.iconst 0, 1) := by decide +kernel
theorem dX7_areCommands_35 : decode cX7_areCommands 35 = .ok (.ireturn, 1) := by decide +kernel
theorem dX7_areCommands_36 : decode cX7_areCommands 36 = .ok (.iconst 0, 1) := by decide +kernel
theorem dX7_areCommands_37 : decode cX7_areCommands 37 = .ok (.ireturn, 1) := by decide +kernel
set_option maxRecDepth 20000 in
theorem ggX7_errorPosition_X7_areCommands : GoodIn wsX7_errorPosition wsX7_areCommands := goodIn_r _ [7, 2, 8, 9, 10, 11, 6, 12, 13, 14, 15, 16, 17, 18, 19, 20, 21, 22, 23, 24, 25, 26, 27, 28, 29, 30, 31, 32, 33, 34, 35, 36, 37, 38, 39, 40, 41] (by decide +kernel) (by decide +kernel)
set_option maxRecDepth 20000 in
theorem gX7_errorPosition_X7_areCommands : GoodIn wsX7_errorPosition (wsV RX7 136 RX7 yX7_areCommands wsX7_areCommands) := goodIn_app (goodIn_of _ (by decide +kernel)) ggX7_errorPosition_X7_areCommands
theorem dX7_errorPosition_0 : decode cX7_errorPosition 0 = .ok (.aload_n 0, 1) := by decide +kernel
theorem dX7_errorPosition_1 : decode cX7_errorPosition 1 = .ok (.iconst 0, 1) := by decide +kernel
theorem dX7_errorPosition_2 : decode cX7_errorPosition 2 = .ok (.putfield 20, 3) := by decide +kernel
theorem dX7_errorPosition_5 : decode cX7_errorPosition 5 = .ok (.aload_n 0, 1) := by decide +kernel
theorem dX7_errorPosition_6 : decode cX7_errorPosition 6 = .ok (.invokevirtual 136, 3) := by decide +kernel
theorem dX7_errorPosition_9 : decode cX7_errorPosition 9 = .ok (.ifCond .eq 8, 3) := by decide +kernel
theorem dX7_errorPosition_12 : decode cX7_errorPosition 12 = .ok (.bipush (-2), 2) := by decide +kernel
theorem dX7_errorPosition_14 : decode cX7_errorPosition 14 = .ok (.goto 7, 3) := by decide +kernel
theorem dX7_errorPosition_17 : decode cX7_errorPosition 17 = .ok (.aload_n 0, 1) := by decide +kernel
theorem dX7_errorPosition_18 : decode cX7_errorPosition 18 = .ok (.getfield 108, 3) := by decide +kernel
theorem dX7_errorPosition_21 : decode cX7_errorPosition 21 = .ok (.ireturn, 1) := by decide +kernel
set_option maxRecDepth 20000 in
theorem ggX7_isDone_X7_placeOfName : GoodIn wsX7_isDone wsX7_placeOfName := goodIn_r _ [11, 4, 12, 13, 14, 15, 10, 16, 60, 61, 62, 63, 64, 65, 66, 67, 68, 69, 70, 71] (by decide +kernel) (by decide +kernel)
set_option maxRecDepth 20000 in
theorem gX7_isDone_X7_placeOfName : GoodIn wsX7_isDone (wsV RX7 55 RX7 yX7_placeOfName wsX7_placeOfName) := goodIn_app (goodIn_of _ (by decide +kernel)) ggX7_isDone_X7_placeOfName
set_option maxRecDepth 20000 in
theorem ggX7_isDone_X7_canMake : GoodIn wsX7_isDone wsX7_canMake := goodIn_r _ [20, 4, 7, 8, 9, 10, 11, 12, 13, 14, 15, 16, 60, 61, 62, 63, 64, 65, 66, 67, 68, 69, 70, 71] (by decide +kernel) (by decide +kernel)
set_option maxRecDepth 20000 in
theorem gX7_isDone_X7_canMake : GoodIn wsX7_isDone (wsV RX7 76 RX7 yX7_canMake wsX7_canMake) := goodIn_app (goodIn_of _ (by decide +kernel)) ggX7_isDone_X7_canMake
set_option maxRecDepth 20000 in
theorem ggX7_isDone_X7_makes : GoodIn wsX7_isDone wsX7_makes := goodIn_r _ [24, 4, 12, 25, 26, 27, 10, 28, 29, 30, 31, 32, 13, 14, 15, 16, 33, 34, 35, 36, 37, 38, 39, 40, 41, 42, 43, 44, 45, 46, 47, 60, 61, 62, 63, 64, 65, 66, 67, 68, 69, 70, 71] (by decide +kernel) (by decide +kernel)
set_option maxRecDepth 20000 in
theorem gX7_isDone_X7_makes : GoodIn wsX7_isDone (wsV RX7 86 RX7 yX7_makes wsX7_makes) := goodIn_app (goodIn_of _ (by decide +kernel)) ggX7_isDone_X7_makes
set_option maxRecDepth 20000 in
theorem ggX7_isDone_X7_takesOut : GoodIn wsX7_isDone wsX7_takesOut := goodIn_r _ [51, 4, 13, 14, 15, 10, 16, 52, 53, 54, 55, 37, 38, 39, 40, 41, 42, 43, 44, 56, 57, 58, 59, 45, 46, 47, 60, 61, 62, 63, 64, 65, 66, 67, 68, 69, 70, 71] (by decide +kernel) (by decide +kernel)
set_option maxRecDepth 20000 in
theorem gX7_isDone_X7_takesOut : GoodIn wsX7_isDone (wsV RX7 92 RX7 yX7_takesOut wsX7_takesOut) := goodIn_app (goodIn_of _ (by decide +kernel)) ggX7_isDone_X7_takesOut
theorem dX7_isDone_0 : decode cX7_isDone 0 = .ok (.aload_n 0, 1) := by decide +kernel
theorem dX7_isDone_1 : decode cX7_isDone 1 = .ok (.aload_n 0, 1) := by decide +kernel
theorem dX7_isDone_2 : decode cX7_isDone 2 = .ok (.getfield 117, 3) := by decide +kernel
theorem dX7_isDone_5 : decode cX7_isDone 5 = .ok (.aload_n 0, 1) := by decide +kernel
theorem dX7_isDone_6 : decode cX7_isDone 6 = .ok (.getfield 124, 3) := by decide +kernel
theorem dX7_isDone_9 : decode cX7_isDone 9 = .ok (.invokevirtual 55, 3) := by decide +kernel
theorem dX7_isDone_12 : decode cX7_isDone 12 = .ok (.istore_n 1, 1) := by decide +kernel
theorem dX7_isDone_13 : decode cX7_isDone 13 = .ok (.aload_n 0, 1) := by decide +kernel
theorem dX7_isDone_14 : decode cX7_isDone 14 = .ok (.getfield 111, 3) := by decide +kernel
theorem dX7_isDone_17 : decode cX7_isDone 17 = .ok (.bipush 43, 2) := by decide +kernel
theorem dX7_isDone_19 : decode cX7_isDone 19 = .ok (.if_icmp .ne 66, 3) := by decide +kernel
theorem dX7_isDone_22 : decode cX7_isDone 22 = .ok (.iload_n 1, 1) := by decide +kernel
theorem dX7_isDone_23 : decode cX7_isDone 23 = .ok (.bipush (-2), 2) := by decide +kernel
theorem dX7_isDone_25 : decode cX7_isDone 25 = .ok (.if_icmp .ne 33, 3) := by decide +kernel
theorem dX7_isDone_28 : decode cX7_isDone 28 = .ok (.aload_n 0, 1) := by decide +kernel
theorem dX7_isDone_29 : decode cX7_isDone 29 = .ok (.aload_n 0, 1) := by decide +kernel
theorem dX7_isDone_30 : decode cX7_isDone 30 = .ok (.getfield 117, 3) := by decide +kernel
theorem dX7_isDone_33 : decode cX7_isDone 33 = .ok (.aload_n 0, 1) := by decide +kernel
theorem dX7_isDone_34 : decode cX7_isDone 34 = .ok (.getfield 124, 3) := by decide +kernel
theorem dX7_isDone_37 : decode cX7_isDone 37 = .ok (.invokevirtual 76, 3) := by decide +kernel
theorem dX7_isDone_40 : decode cX7_isDone 40 = .ok (.ifCond .eq 18, 3) := by decide +kernel
theorem dX7_isDone_43 : decode cX7_isDone 43 = .ok (.aload_n 0, 1) := by decide +kernel
theorem dX7_isDone_44 : decode cX7_isDone 44 = .ok (.getfield 7, 3) := by decide +kernel
theorem dX7_isDone_47 : decode cX7_isDone 47 = .ok (.iconst 0, 1) := by decide +kernel
theorem dX7_isDone_48 : decode cX7_isDone 48 = .ok (.iaload, 1) := by decide +kernel
theorem dX7_isDone_49 : decode cX7_isDone 49 = .ok (.bipush 40, 2) := by decide +kernel
theorem dX7_isDone_51 : decode cX7_isDone 51 = .ok (.if_icmp .ge 7, 3) := by decide +kernel
theorem dX7_isDone_54 : decode cX7_isDone 54 = .ok (.iconst 1, 1) := by decide +kernel
theorem dX7_isDone_55 : decode cX7_isDone 55 = .ok (.goto 4, 3) := by decide +kernel
theorem dX7_isDone_58 : decode cX7_isDone 58 = .ok (.iconst 0, 1) := by decide +kernel
theorem dX7_isDone_59 : decode cX7_isDone 59 = .ok (.istore_n 2, 1) := by decide +kernel
theorem dX7_isDone_60 : decode cX7_isDone 60 = .ok (.iload_n 2, 1) := by decide +kernel
theorem dX7_isDone_61 : decode cX7_isDone 61 = .ok (.ifCond .eq 22, 3) := by decide +kernel
theorem dX7_isDone_64 : decode cX7_isDone 64 = .ok (.aload_n 0, 1) := by decide +kernel
theorem dX7_isDone_65 : decode cX7_isDone 65 = .ok (.aload_n 0, 1) := by decide +kernel
theorem dX7_isDone_66 : decode cX7_isDone 66 = .ok (.getfield 117, 3) := by decide +kernel
theorem dX7_isDone_69 : decode cX7_isDone 69 = .ok (.aload_n 0, 1) := by decide +kernel
theorem dX7_isDone_70 : decode cX7_isDone 70 = .ok (.getfield 124, 3) := by decide +kernel
theorem dX7_isDone_73 : decode cX7_isDone 73 = .ok (.invokevirtual 86, 3) := by decide +kernel
theorem dX7_isDone_76 : decode cX7_isDone 76 = .ok (.ifCond .lt 7, 3) := by decide +kernel
theorem dX7_isDone_79 : decode cX7_isDone 79 = .ok (.iconst 1, 1) := by decide +kernel
theorem dX7_isDone_80 : decode cX7_isDone 80 = .ok (.goto 4, 3) := by decide +kernel
theorem dX7_isDone_83 : decode cX7_isDone 83 = .ok (.iconst 0, 1) := by decide +kernel
theorem dX7_isDone_84 : decode cX7_isDone 84 = .ok (.ireturn, 1) := by decide +kernel
theorem dX7_isDone_85 : decode cX7_isDone 85 = .ok (.iload_n 1, 1) := by decide +kernel
theorem dX7_isDone_86 : decode cX7_isDone 86 = .ok (.bipush (-2), 2) := by decide +kernel
theorem dX7_isDone_88 : decode cX7_isDone 88 = .ok (.if_icmp .eq 27, 3) := by decide +kernel
theorem dX7_isDone_91 : decode cX7_isDone 91 = .ok (.aload_n 0, 1) := by decide +kernel
theorem dX7_isDone_92 : decode cX7_isDone 92 = .ok (.getfield 111, 3) := by decide +kernel
theorem dX7_isDone_95 : decode cX7_isDone 95 = .ok (.bipush 61, 2) := by decide +kernel
theorem dX7_isDone_97 : decode cX7_isDone 97 = .ok (.if_icmp .ne 20, 3) := by decide +kernel
theorem dX7_isDone_100 : decode cX7_isDone 100 = .ok (.aload_n 0, 1) := by decide +kernel
theorem dX7_isDone_101 : decode cX7_isDone 101 = .ok (.aload_n 0, 1) := by decide +kernel
theorem dX7_isDone_102 : decode cX7_isDone 102 = .ok (.getfield 127, 3) := by decide +kernel
theorem dX7_isDone_105 : decode cX7_isDone 105 = .ok (.aload_n 0, 1) := by decide +kernel
theorem dX7_isDone_106 : decode cX7_isDone 106 = .ok (.getfield 130, 3) := by decide +kernel
theorem dX7_isDone_109 : decode cX7_isDone 109 = .ok (.invokevirtual 76, 3) := by decide +kernel
theorem dX7_isDone_112 : decode cX7_isDone 112 = .ok (.ifCond .ne 5, 3) := by decide +kernel
theorem dX7_isDone_115 : decode cX7_isDone 115 = .ok (.iconst 0, 1) := by decide +kernel
theorem dX7_isDone_116 : decode cX7_isDone 116 = .ok (.ireturn, 1) := by decide +kernel
theorem dX7_isDone_117 : decode cX7_isDone 117 = .ok (.aload_n 0, 1) := by decide +kernel
theorem dX7_isDone_118 : decode cX7_isDone 118 = .ok (.iload_n 1, 1) := by decide +kernel
theorem dX7_isDone_119 : decode cX7_isDone 119 = .ok (.invokevirtual 92, 3) := by decide +kernel
theorem dX7_isDone_122 : decode cX7_isDone 122 = .ok (.aload_n 0, 1) := by decide +kernel
theorem dX7_isDone_123 : decode cX7_isDone 123 = .ok (.getfield 111, 3) := by decide +kernel
theorem dX7_isDone_126 : decode cX7_isDone 126 = .ok (.bipush 45, 2) := by decide +kernel
theorem dX7_isDone_128 : decode cX7_isDone 128 = .ok (.if_icmp .eq 18, 3) := by decide +kernel
theorem dX7_isDone_131 : decode cX7_isDone 131 = .ok (.aload_n 0, 1) := by decide +kernel
theorem dX7_isDone_132 : decode cX7_isDone 132 = .ok (.aload_n 0, 1) := by decide +kernel
theorem dX7_isDone_133 : decode cX7_isDone 133 = .ok (.getfield 127, 3) := by decide +kernel
theorem dX7_isDone_136 : decode cX7_isDone 136 = .ok (.aload_n 0, 1) := by decide +kernel
theorem dX7_isDone_137 : decode cX7_isDone 137 = .ok (.getfield 130, 3) := by decide +kernel
theorem dX7_isDone_140 : decode cX7_isDone 140 = .ok (.invokevirtual 86, 3) := by decide +kernel
theorem dX7_isDone_143 : decode cX7_isDone 143 = .ok (.ifCond .lt 7, 3) := by decide +kernel
theorem dX7_isDone_146 : decode cX7_isDone 146 = .ok (.iconst 1, 1) := by decide +kernel
theorem dX7_isDone_147 : decode cX7_isDone 147 = .ok (.goto 4, 3) := by decide +kernel
theorem dX7_isDone_150 : decode cX7_isDone 150 = .ok (.iconst 0, 1) := by decide +kernel
theorem dX7_isDone_151 : decode cX7_isDone 151 = .ok (.ireturn, 1) := by decide +kernel
set_option maxRecDepth 20000 in
theorem ggX7_runText_X7_areCommands : GoodIn wsX7_runText wsX7_areCommands := goodIn_r _ [6, 1, 7, 8, 9, 10, 5, 11, 12, 13, 14, 15, 16, 17, 18, 19, 20, 21, 22, 23, 24, 25, 26, 27, 28, 99, 100, 101, 102, 103, 104, 105, 106, 107, 108, 109, 110] (by decide +kernel) (by decide +kernel)
set_option maxRecDepth 20000 in
theorem gX7_runText_X7_areCommands : GoodIn wsX7_runText (wsV RX7 136 RX7 yX7_areCommands wsX7_areCommands) := goodIn_app (goodIn_of _ (by decide +kernel)) ggX7_runText_X7_areCommands
set_option maxRecDepth 20000 in
theorem ggX7_runText_X7_holds : GoodIn wsX7_runText wsX7_holds := goodIn_r _ [32, 33, 99, 100, 101, 102, 103, 104, 105, 106, 107, 108, 109, 110] (by decide +kernel) (by decide +kernel)
set_option maxRecDepth 20000 in
theorem gX7_runText_X7_holds : GoodIn wsX7_runText (wsV RX7 79 RX7 yX7_holds wsX7_holds) := goodIn_app (goodIn_of _ (by decide +kernel)) ggX7_runText_X7_holds
set_option maxRecDepth 20000 in
theorem ggX7_runText_X7_keeps : GoodIn wsX7_runText wsX7_keeps := goodIn_r _ [37, 38, 39, 40, 41, 5, 42, 43, 99, 100, 101, 102, 103, 104, 105, 106, 107, 108, 109, 110] (by decide +kernel) (by decide +kernel)
set_option maxRecDepth 20000 in
theorem gX7_runText_X7_keeps : GoodIn wsX7_runText (wsV RX7 83 RX7 yX7_keeps wsX7_keeps) := goodIn_app (goodIn_of _ (by decide +kernel)) ggX7_runText_X7_keeps
set_option maxRecDepth 20000 in
theorem ggX7_runText_X7_readsCommand : GoodIn wsX7_runText wsX7_readsCommand := goodIn_r _ [11, 1, 7, 12, 13, 14, 15, 16, 17, 18, 19, 20, 5, 21, 22, 23, 24, 25, 26, 27, 28, 99, 100, 101, 102, 103, 104, 105, 106, 107, 108, 109, 110] (by decide +kernel) (by decide +kernel)
set_option maxRecDepth 20000 in
theorem gX7_runText_X7_readsCommand : GoodIn wsX7_runText (wsV RX7 133 RX7 yX7_readsCommand wsX7_readsCommand) := goodIn_app (goodIn_of _ (by decide +kernel)) ggX7_runText_X7_readsCommand
set_option maxRecDepth 20000 in
theorem ggX7_runText_X7_isDone : GoodIn wsX7_runText wsX7_isDone := goodIn_r _ [47, 14, 15, 13, 43, 16, 17, 48, 49, 50, 5, 51, 12, 52, 53, 54, 55, 56, 57, 58, 59, 60, 61, 62, 63, 64, 65, 66, 67, 68, 69, 70, 71, 72, 73, 74, 75, 76, 77, 78, 79, 80, 81, 82, 83, 84, 85, 86, 87, 88, 89, 90, 91, 92, 93, 94, 95, 96, 97, 98, 99, 100, 101, 102, 103, 104, 105, 106, 107, 108, 109, 110] (by decide +kernel) (by decide +kernel)
set_option maxRecDepth 20000 in
theorem gX7_runText_X7_isDone : GoodIn wsX7_runText (wsV RX7 139 RX7 yX7_isDone wsX7_isDone) := goodIn_app (goodIn_of _ (by decide +kernel)) ggX7_runText_X7_isDone
set_option maxRecDepth 20000 in
theorem ggX7_runText_X7_takes : GoodIn wsX7_runText wsX7_takes := goodIn_r _ [21, 1, 7, 12, 99, 100, 101, 102, 103, 104, 105, 106, 107, 108, 109, 110] (by decide +kernel) (by decide +kernel)
set_option maxRecDepth 20000 in
theorem gX7_runText_X7_takes : GoodIn wsX7_runText (wsV RX7 114 RX7 yX7_takes wsX7_takes) := goodIn_app (goodIn_of _ (by decide +kernel)) ggX7_runText_X7_takes
theorem dX7_runText_0 : decode cX7_runText 0 = .ok (.aload_n 0, 1) := by decide +kernel
theorem dX7_runText_1 : decode cX7_runText 1 = .ok (.aload_n 0, 1) := by decide +kernel
theorem dX7_runText_2 : decode cX7_runText 2 = .ok (.invokevirtual 136, 3) := by decide +kernel
theorem dX7_runText_5 : decode cX7_runText 5 = .ok (.ifCond .eq 7, 3) := by decide +kernel
theorem dX7_runText_8 : decode cX7_runText 8 = .ok (.iconst 0, 1) := by decide +kernel
theorem dX7_runText_9 : decode cX7_runText 9 = .ok (.goto 4, 3) := by decide +kernel
theorem dX7_runText_12 : decode cX7_runText 12 = .ok (.iconst 1, 1) := by decide +kernel
theorem dX7_runText_13 : decode cX7_runText 13 = .ok (.invokevirtual 79, 3) := by decide +kernel
theorem dX7_runText_16 : decode cX7_runText 16 = .ok (.ifCond .ne 5, 3) := by decide +kernel
theorem dX7_runText_19 : decode cX7_runText 19 = .ok (.iconst 0, 1) := by decide +kernel
theorem dX7_runText_20 : decode cX7_runText 20 = .ok (.ireturn, 1) := by decide +kernel
theorem dX7_runText_21 : decode cX7_runText 21 = .ok (.aload_n 0, 1) := by decide +kernel
theorem dX7_runText_22 : decode cX7_runText 22 = .ok (.invokevirtual 83, 3) := by decide +kernel
theorem dX7_runText_25 : decode cX7_runText 25 = .ok (.aload_n 0, 1) := by decide +kernel
theorem dX7_runText_26 : decode cX7_runText 26 = .ok (.iconst 0, 1) := by decide +kernel
theorem dX7_runText_27 : decode cX7_runText 27 = .ok (.putfield 108, 3) := by decide +kernel
theorem dX7_runText_30 : decode cX7_runText 30 = .ok (.iconst 0, 1) := by decide +kernel
theorem dX7_runText_31 : decode cX7_runText 31 = .ok (.istore_n 1, 1) := by decide +kernel
theorem dX7_runText_32 : decode cX7_runText 32 = .ok (.aload_n 0, 1) := by decide +kernel
theorem dX7_runText_33 : decode cX7_runText 33 = .ok (.invokevirtual 133, 3) := by decide +kernel
theorem dX7_runText_36 : decode cX7_runText 36 = .ok (.ifCond .eq 23, 3) := by decide +kernel
theorem dX7_runText_39 : decode cX7_runText 39 = .ok (.aload_n 0, 1) := by decide +kernel
theorem dX7_runText_40 : decode cX7_runText 40 = .ok (.invokevirtual 139, 3) := by decide +kernel
theorem dX7_runText_43 : decode cX7_runText 43 = .ok (.ifCond .eq 16, 3) := by decide +kernel
theorem dX7_runText_46 : decode cX7_runText 46 = .ok (.iinc 1 1, 3) := by decide +kernel
theorem dX7_runText_49 : decode cX7_runText 49 = .ok (.aload_n 0, 1) := by decide +kernel
theorem dX7_runText_50 : decode cX7_runText 50 = .ok (.bipush 59, 2) := by decide +kernel
theorem dX7_runText_52 : decode cX7_runText 52 = .ok (.invokevirtual 114, 3) := by decide +kernel
theorem dX7_runText_55 : decode cX7_runText 55 = .ok (.pop, 1) := by decide +kernel
theorem dX7_runText_56 : decode cX7_runText 56 = .ok (.goto (-24), 3) := by decide +kernel
theorem dX7_runText_59 : decode cX7_runText 59 = .ok (.iload_n 1, 1) := by decide +kernel
theorem dX7_runText_60 : decode cX7_runText 60 = .ok (.ireturn, 1) := by decide +kernel
set_option maxRecDepth 20000 in
theorem ggX7_undo_X7_holds : GoodIn wsX7_undo wsX7_holds := goodIn_r _ [6, 7, 13, 14, 15, 16, 17, 18, 19, 20, 21, 22, 23, 24] (by decide +kernel) (by decide +kernel)
set_option maxRecDepth 20000 in
theorem gX7_undo_X7_holds : GoodIn wsX7_undo (wsV RX7 79 RX7 yX7_holds wsX7_holds) := goodIn_app (goodIn_of _ (by decide +kernel)) ggX7_undo_X7_holds
set_option maxRecDepth 20000 in
theorem ggX7_undo_X7_copies : GoodIn wsX7_undo wsX7_copies := goodIn_r _ [11, 12, 13, 14, 15, 16, 17, 18, 19, 20, 21, 22, 23, 24] (by decide +kernel) (by decide +kernel)
set_option maxRecDepth 20000 in
theorem gX7_undo_X7_copies : GoodIn wsX7_undo (wsV RX7 61 RX7 yX7_copies wsX7_copies) := goodIn_app (goodIn_of _ (by decide +kernel)) ggX7_undo_X7_copies
theorem dX7_undo_0 : decode cX7_undo 0 = .ok (.aload_n 0, 1) := by decide +kernel
theorem dX7_undo_1 : decode cX7_undo 1 = .ok (.aload_n 0, 1) := by decide +kernel
theorem dX7_undo_2 : decode cX7_undo 2 = .ok (.getfield 58, 3) := by decide +kernel
theorem dX7_undo_5 : decode cX7_undo 5 = .ok (.ifCond .le 7, 3) := by decide +kernel
theorem dX7_undo_8 : decode cX7_undo 8 = .ok (.iconst 0, 1) := by decide +kernel
theorem dX7_undo_9 : decode cX7_undo 9 = .ok (.goto 4, 3) := by decide +kernel
theorem dX7_undo_12 : decode cX7_undo 12 = .ok (.iconst 1, 1) := by decide +kernel
theorem dX7_undo_13 : decode cX7_undo 13 = .ok (.invokevirtual 79, 3) := by decide +kernel
theorem dX7_undo_16 : decode cX7_undo 16 = .ok (.ifCond .ne 5, 3) := by decide +kernel
theorem dX7_undo_19 : decode cX7_undo 19 = .ok (.iconst 0, 1) := by decide +kernel
theorem dX7_undo_20 : decode cX7_undo 20 = .ok (.ireturn, 1) := by decide +kernel
theorem dX7_undo_21 : decode cX7_undo 21 = .ok (.aload_n 0, 1) := by decide +kernel
theorem dX7_undo_22 : decode cX7_undo 22 = .ok (.aload_n 0, 1) := by decide +kernel
theorem dX7_undo_23 : decode cX7_undo 23 = .ok (.getfield 58, 3) := by decide +kernel
theorem dX7_undo_26 : decode cX7_undo 26 = .ok (.iconst 0, 1) := by decide +kernel
theorem dX7_undo_27 : decode cX7_undo 27 = .ok (.invokevirtual 61, 3) := by decide +kernel
theorem dX7_undo_30 : decode cX7_undo 30 = .ok (.aload_n 0, 1) := by decide +kernel
theorem dX7_undo_31 : decode cX7_undo 31 = .ok (.dup, 1) := by decide +kernel
theorem dX7_undo_32 : decode cX7_undo 32 = .ok (.getfield 58, 3) := by decide +kernel
theorem dX7_undo_35 : decode cX7_undo 35 = .ok (.iconst 1, 1) := by decide +kernel
theorem dX7_undo_36 : decode cX7_undo 36 = .ok (.isub, 1) := by decide +kernel
theorem dX7_undo_37 : decode cX7_undo 37 = .ok (.putfield 58, 3) := by decide +kernel
theorem dX7_undo_40 : decode cX7_undo 40 = .ok (.aload_n 0, 1) := by decide +kernel
theorem dX7_undo_41 : decode cX7_undo 41 = .ok (.getfield 58, 3) := by decide +kernel
theorem dX7_undo_44 : decode cX7_undo 44 = .ok (.ireturn, 1) := by decide +kernel
set_option maxRecDepth 20000 in
theorem ggX7_save_X7_in : GoodIn wsX7_save wsX7_in := goodIn_r _ [6] (by decide +kernel) (by decide +kernel)
set_option maxRecDepth 20000 in
theorem gX7_save_X7_in : GoodIn wsX7_save (va_wsS RX7 68 yX7_in wsX7_in) := goodIn_app (goodIn_of _ (by decide +kernel)) ggX7_save_X7_in
set_option maxRecDepth 20000 in
theorem ggX7_save_X7_holds : GoodIn wsX7_save wsX7_holds := goodIn_r _ [10, 11, 16, 17, 18, 19, 20, 21, 22, 23, 24, 25, 26, 27] (by decide +kernel) (by decide +kernel)
set_option maxRecDepth 20000 in
theorem gX7_save_X7_holds : GoodIn wsX7_save (wsV RX7 79 RX7 yX7_holds wsX7_holds) := goodIn_app (goodIn_of _ (by decide +kernel)) ggX7_save_X7_holds
set_option maxRecDepth 20000 in
theorem ggX7_save_X7_copies : GoodIn wsX7_save wsX7_copies := goodIn_r _ [15, 2, 16, 17, 18, 19, 20, 21, 22, 23, 24, 25, 26, 27] (by decide +kernel) (by decide +kernel)
set_option maxRecDepth 20000 in
theorem gX7_save_X7_copies : GoodIn wsX7_save (wsV RX7 61 RX7 yX7_copies wsX7_copies) := goodIn_app (goodIn_of _ (by decide +kernel)) ggX7_save_X7_copies
