theorem dX7_save_0 : decode cX7_save 0 = .ok (.aload_n 0, 1) := by decide +kernel
theorem dX7_save_1 : decode cX7_save 1 = .ok (.iload_n 1, 1) := by decide +kernel
theorem dX7_save_2 : decode cX7_save 2 = .ok (.iconst 0, 1) := by decide +kernel
theorem dX7_save_3 : decode cX7_save 3 = .ok (.iconst 1, 1) := by decide +kernel
theorem dX7_save_4 : decode cX7_save 4 = .ok (.invokestatic 68, 3) := by decide +kernel
theorem dX7_save_7 : decode cX7_save 7 = .ok (.ifCond .eq 7, 3) := by decide +kernel
theorem dX7_save_10 : decode cX7_save 10 = .ok (.iconst 0, 1) := by decide +kernel
theorem dX7_save_11 : decode cX7_save 11 = .ok (.goto 4, 3) := by decide +kernel
theorem dX7_save_14 : decode cX7_save 14 = .ok (.iconst 1, 1) := by decide +kernel
theorem dX7_save_15 : decode cX7_save 15 = .ok (.invokevirtual 79, 3) := by decide +kernel
theorem dX7_save_18 : decode cX7_save 18 = .ok (.ifCond .ne 5, 3) := by decide +kernel
theorem dX7_save_21 : decode cX7_save 21 = .ok (.iconst 0, 1) := by decide +kernel
theorem dX7_save_22 : decode cX7_save 22 = .ok (.ireturn, 1) := by decide +kernel
theorem dX7_save_23 : decode cX7_save 23 = .ok (.aload_n 0, 1) := by decide +kernel
theorem dX7_save_24 : decode cX7_save 24 = .ok (.iconst 0, 1) := by decide +kernel
theorem dX7_save_25 : decode cX7_save 25 = .ok (.bipush 7, 2) := by decide +kernel
theorem dX7_save_27 : decode cX7_save 27 = .ok (.iload_n 1, 1) := by decide +kernel
theorem dX7_save_28 : decode cX7_save 28 = .ok (.iadd, 1) := by decide +kernel
theorem dX7_save_29 : decode cX7_save 29 = .ok (.invokevirtual 61, 3) := by decide +kernel
theorem dX7_save_32 : decode cX7_save 32 = .ok (.aload_n 0, 1) := by decide +kernel
theorem dX7_save_33 : decode cX7_save 33 = .ok (.getfield 13, 3) := by decide +kernel
theorem dX7_save_36 : decode cX7_save 36 = .ok (.iload_n 1, 1) := by decide +kernel
theorem dX7_save_37 : decode cX7_save 37 = .ok (.iconst 1, 1) := by decide +kernel
theorem dX7_save_38 : decode cX7_save 38 = .ok (.bastore, 1) := by decide +kernel
theorem dX7_save_39 : decode cX7_save 39 = .ok (.aload_n 0, 1) := by decide +kernel
theorem dX7_save_40 : decode cX7_save 40 = .ok (.getfield 7, 3) := by decide +kernel
theorem dX7_save_43 : decode cX7_save 43 = .ok (.iconst 0, 1) := by decide +kernel
theorem dX7_save_44 : decode cX7_save 44 = .ok (.iaload, 1) := by decide +kernel
theorem dX7_save_45 : decode cX7_save 45 = .ok (.ireturn, 1) := by decide +kernel
set_option maxRecDepth 20000 in
theorem ggX7_restore_X7_in : GoodIn wsX7_restore wsX7_in := goodIn_r _ [6] (by decide +kernel) (by decide +kernel)
set_option maxRecDepth 20000 in
theorem gX7_restore_X7_in : GoodIn wsX7_restore (va_wsS RX7 68 yX7_in wsX7_in) := goodIn_app (goodIn_of _ (by decide +kernel)) ggX7_restore_X7_in
set_option maxRecDepth 20000 in
theorem ggX7_restore_X7_holds : GoodIn wsX7_restore wsX7_holds := goodIn_r _ [10, 11, 21, 22, 23, 24, 25, 26, 27, 28, 29, 30, 31, 32] (by decide +kernel) (by decide +kernel)
set_option maxRecDepth 20000 in
theorem gX7_restore_X7_holds : GoodIn wsX7_restore (wsV RX7 79 RX7 yX7_holds wsX7_holds) := goodIn_app (goodIn_of _ (by decide +kernel)) ggX7_restore_X7_holds
set_option maxRecDepth 20000 in
theorem ggX7_restore_X7_keeps : GoodIn wsX7_restore wsX7_keeps := goodIn_r _ [15, 16, 17, 18, 19, 5, 20, 2, 21, 22, 23, 24, 25, 26, 27, 28, 29, 30, 31, 32] (by decide +kernel) (by decide +kernel)
set_option maxRecDepth 20000 in
theorem gX7_restore_X7_keeps : GoodIn wsX7_restore (wsV RX7 83 RX7 yX7_keeps wsX7_keeps) := goodIn_app (goodIn_of _ (by decide +kernel)) ggX7_restore_X7_keeps
set_option maxRecDepth 20000 in
theorem ggX7_restore_X7_copies : GoodIn wsX7_restore wsX7_copies := goodIn_r _ [20, 2, 21, 22, 23, 24, 25, 26, 27, 28, 29, 30, 31, 32] (by decide +kernel) (by decide +kernel)
set_option maxRecDepth 20000 in
theorem gX7_restore_X7_copies : GoodIn wsX7_restore (wsV RX7 61 RX7 yX7_copies wsX7_copies) := goodIn_app (goodIn_of _ (by decide +kernel)) ggX7_restore_X7_copies
theorem dX7_restore_0 : decode cX7_restore 0 = .ok (.aload_n 0, 1) := by decide +kernel
theorem dX7_restore_1 : decode cX7_restore 1 = .ok (.iload_n 1, 1) := by decide +kernel
theorem dX7_restore_2 : decode cX7_restore 2 = .ok (.iconst 0, 1) := by decide +kernel
theorem dX7_restore_3 : decode cX7_restore 3 = .ok (.iconst 1, 1) := by decide +kernel
theorem dX7_restore_4 : decode cX7_restore 4 = .ok (.invokestatic 68, 3) := by decide +kernel
theorem dX7_restore_7 : decode cX7_restore 7 = .ok (.ifCond .ne 7, 3) := by decide +kernel
theorem dX7_restore_10 : decode cX7_restore 10 = .ok (.iconst 1, 1) := by decide +kernel
theorem dX7_restore_11 : decode cX7_restore 11 = .ok (.goto 17, 3) := by decide +kernel
theorem dX7_restore_14 : decode cX7_restore 14 = .ok (.aload_n 0, 1) := by decide +kernel
theorem dX7_restore_15 : decode cX7_restore 15 = .ok (.getfield 13, 3) := by decide +kernel
theorem dX7_restore_18 : decode cX7_restore 18 = .ok (.iload_n 1, 1) := by decide +kernel
theorem dX7_restore_19 : decode cX7_restore 19 = .ok (.baload, 1) := by decide +kernel
theorem dX7_restore_20 : decode cX7_restore 20 = .ok (.ifCond .ne 7, 3) := by decide +kernel
theorem dX7_restore_23 : decode cX7_restore 23 = .ok (.iconst 2, 1) := by decide +kernel
theorem dX7_restore_24 : decode cX7_restore 24 = .ok (.goto 4, 3) := by decide +kernel
theorem dX7_restore_27 : decode cX7_restore 27 = .ok (.iconst 0, 1) := by decide +kernel
theorem dX7_restore_28 : decode cX7_restore 28 = .ok (.invokevirtual 79, 3) := by decide +kernel
theorem dX7_restore_31 : decode cX7_restore 31 = .ok (.ifCond .ne 5, 3) := by decide +kernel
theorem dX7_restore_34 : decode cX7_restore 34 = .ok (.iconst 0, 1) := by decide +kernel
theorem dX7_restore_35 : decode cX7_restore 35 = .ok (.ireturn, 1) := by decide +kernel
theorem dX7_restore_36 : decode cX7_restore 36 = .ok (.aload_n 0, 1) := by decide +kernel
theorem dX7_restore_37 : decode cX7_restore 37 = .ok (.invokevirtual 83, 3) := by decide +kernel
theorem dX7_restore_40 : decode cX7_restore 40 = .ok (.aload_n 0, 1) := by decide +kernel
theorem dX7_restore_41 : decode cX7_restore 41 = .ok (.bipush 7, 2) := by decide +kernel
theorem dX7_restore_43 : decode cX7_restore 43 = .ok (.iload_n 1, 1) := by decide +kernel
theorem dX7_restore_44 : decode cX7_restore 44 = .ok (.iadd, 1) := by decide +kernel
theorem dX7_restore_45 : decode cX7_restore 45 = .ok (.iconst 0, 1) := by decide +kernel
theorem dX7_restore_46 : decode cX7_restore 46 = .ok (.invokevirtual 61, 3) := by decide +kernel
theorem dX7_restore_49 : decode cX7_restore 49 = .ok (.aload_n 0, 1) := by decide +kernel
theorem dX7_restore_50 : decode cX7_restore 50 = .ok (.getfield 7, 3) := by decide +kernel
theorem dX7_restore_53 : decode cX7_restore 53 = .ok (.iconst 0, 1) := by decide +kernel
theorem dX7_restore_54 : decode cX7_restore 54 = .ok (.iaload, 1) := by decide +kernel
theorem dX7_restore_55 : decode cX7_restore 55 = .ok (.ireturn, 1) := by decide +kernel
theorem dX7_entries_0 : decode cX7_entries 0 = .ok (.aload_n 0, 1) := by decide +kernel
theorem dX7_entries_1 : decode cX7_entries 1 = .ok (.iconst 0, 1) := by decide +kernel
theorem dX7_entries_2 : decode cX7_entries 2 = .ok (.putfield 20, 3) := by decide +kernel
theorem dX7_entries_5 : decode cX7_entries 5 = .ok (.aload_n 0, 1) := by decide +kernel
theorem dX7_entries_6 : decode cX7_entries 6 = .ok (.getfield 7, 3) := by decide +kernel
theorem dX7_entries_9 : decode cX7_entries 9 = .ok (.iconst 0, 1) := by decide +kernel
theorem dX7_entries_10 : decode cX7_entries 10 = .ok (.iaload, 1) := by decide +kernel
theorem dX7_entries_11 : decode cX7_entries 11 = .ok (.ireturn, 1) := by decide +kernel
set_option maxRecDepth 20000 in
theorem ggX7_idAt_X7_holds : GoodIn wsX7_idAt wsX7_holds := goodIn_r _ [6, 7, 12, 13, 14, 15, 16, 17, 18, 19, 20, 21, 22, 23] (by decide +kernel) (by decide +kernel)
set_option maxRecDepth 20000 in
theorem gX7_idAt_X7_holds : GoodIn wsX7_idAt (wsV RX7 79 RX7 yX7_holds wsX7_holds) := goodIn_app (goodIn_of _ (by decide +kernel)) ggX7_idAt_X7_holds
set_option maxRecDepth 20000 in
theorem ggX7_idAt_X7_of : GoodIn wsX7_idAt wsX7_of := goodIn_r _ [11, 1, 12, 13, 14, 15, 16, 17, 18, 19, 20, 21, 22, 23] (by decide +kernel) (by decide +kernel)
set_option maxRecDepth 20000 in
theorem gX7_idAt_X7_of : GoodIn wsX7_idAt (wsV RX7 24 RX7 yX7_of wsX7_of) := goodIn_app (goodIn_of _ (by decide +kernel)) ggX7_idAt_X7_of
theorem dX7_idAt_0 : decode cX7_idAt 0 = .ok (.aload_n 0, 1) := by decide +kernel
theorem dX7_idAt_1 : decode cX7_idAt 1 = .ok (.iload_n 1, 1) := by decide +kernel
theorem dX7_idAt_2 : decode cX7_idAt 2 = .ok (.ifCond .ge 7, 3) := by decide +kernel
theorem dX7_idAt_5 : decode cX7_idAt 5 = .ok (.iconst 1, 1) := by decide +kernel
theorem dX7_idAt_6 : decode cX7_idAt 6 = .ok (.goto 4, 3) := by decide +kernel
theorem dX7_idAt_9 : decode cX7_idAt 9 = .ok (.iconst 0, 1) := by decide +kernel
theorem dX7_idAt_10 : decode cX7_idAt 10 = .ok (.invokevirtual 79, 3) := by decide +kernel
theorem dX7_idAt_13 : decode cX7_idAt 13 = .ok (.ifCond .ne 5, 3) := by decide +kernel
theorem dX7_idAt_16 : decode cX7_idAt 16 = .ok (.iconst 0, 1) := by decide +kernel
theorem dX7_idAt_17 : decode cX7_idAt 17 = .ok (.ireturn, 1) := by decide +kernel
theorem dX7_idAt_18 : decode cX7_idAt 18 = .ok (.iload_n 1, 1) := by decide +kernel
theorem dX7_idAt_19 : decode cX7_idAt 19 = .ok (.aload_n 0, 1) := by decide +kernel
theorem dX7_idAt_20 : decode cX7_idAt 20 = .ok (.getfield 7, 3) := by decide +kernel
theorem dX7_idAt_23 : decode cX7_idAt 23 = .ok (.iconst 0, 1) := by decide +kernel
theorem dX7_idAt_24 : decode cX7_idAt 24 = .ok (.iaload, 1) := by decide +kernel
theorem dX7_idAt_25 : decode cX7_idAt 25 = .ok (.if_icmp .ge 12, 3) := by decide +kernel
theorem dX7_idAt_28 : decode cX7_idAt 28 = .ok (.aload_n 0, 1) := by decide +kernel
theorem dX7_idAt_29 : decode cX7_idAt 29 = .ok (.iload_n 1, 1) := by decide +kernel
theorem dX7_idAt_30 : decode cX7_idAt 30 = .ok (.iconst 0, 1) := by decide +kernel
theorem dX7_idAt_31 : decode cX7_idAt 31 = .ok (.invokevirtual 24, 3) := by decide +kernel
theorem dX7_idAt_34 : decode cX7_idAt 34 = .ok (.goto 5, 3) := by decide +kernel
theorem dX7_idAt_37 : decode cX7_idAt 37 = .ok (.bipush (-2), 2) := by decide +kernel
theorem dX7_idAt_39 : decode cX7_idAt 39 = .ok (.ireturn, 1) := by decide +kernel
set_option maxRecDepth 20000 in
theorem ggX7_find_X7_isName : GoodIn wsX7_find wsX7_isName := goodIn_r _ [6, 1, 7, 8, 9, 5, 10, 25, 26, 27, 28, 29, 30, 31, 32, 33, 34, 35, 36] (by decide +kernel) (by decide +kernel)
set_option maxRecDepth 20000 in
theorem gX7_find_X7_isName : GoodIn wsX7_find (wsV RX7 72 RX7 yX7_isName wsX7_isName) := goodIn_app (goodIn_of _ (by decide +kernel)) ggX7_find_X7_isName
set_option maxRecDepth 20000 in
theorem ggX7_find_X7_holds : GoodIn wsX7_find wsX7_holds := goodIn_r _ [14, 15, 25, 26, 27, 28, 29, 30, 31, 32, 33, 34, 35, 36] (by decide +kernel) (by decide +kernel)
set_option maxRecDepth 20000 in
theorem gX7_find_X7_holds : GoodIn wsX7_find (wsV RX7 79 RX7 yX7_holds wsX7_holds) := goodIn_app (goodIn_of _ (by decide +kernel)) ggX7_find_X7_holds
set_option maxRecDepth 20000 in
theorem ggX7_find_X7_placeOfName : GoodIn wsX7_find wsX7_placeOfName := goodIn_r _ [19, 20, 7, 21, 22, 23, 5, 24, 25, 26, 27, 28, 29, 30, 31, 32, 33, 34, 35, 36] (by decide +kernel) (by decide +kernel)
set_option maxRecDepth 20000 in
theorem gX7_find_X7_placeOfName : GoodIn wsX7_find (wsV RX7 55 RX7 yX7_placeOfName wsX7_placeOfName) := goodIn_app (goodIn_of _ (by decide +kernel)) ggX7_find_X7_placeOfName
set_option maxRecDepth 20000 in
theorem ggX7_find_X7_of : GoodIn wsX7_find wsX7_of := goodIn_r _ [24, 20, 25, 26, 27, 28, 29, 30, 31, 32, 33, 34, 35, 36] (by decide +kernel) (by decide +kernel)
set_option maxRecDepth 20000 in
theorem gX7_find_X7_of : GoodIn wsX7_find (wsV RX7 24 RX7 yX7_of wsX7_of) := goodIn_app (goodIn_of _ (by decide +kernel)) ggX7_find_X7_of
theorem dX7_find_0 : decode cX7_find 0 = .ok (.aload_n 0, 1) := by decide +kernel
theorem dX7_find_1 : decode cX7_find 1 = .ok (.aload_n 0, 1) := by decide +kernel
theorem dX7_find_2 : decode cX7_find 2 = .ok (.invokevirtual 72, 3) := by decide +kernel
theorem dX7_find_5 : decode cX7_find 5 = .ok (.ifCond .eq 7, 3) := by decide +kernel
theorem dX7_find_8 : decode cX7_find 8 = .ok (.iconst 0, 1) := by decide +kernel
theorem dX7_find_9 : decode cX7_find 9 = .ok (.goto 4, 3) := by decide +kernel
theorem dX7_find_12 : decode cX7_find 12 = .ok (.iconst 1, 1) := by decide +kernel
theorem dX7_find_13 : decode cX7_find 13 = .ok (.invokevirtual 79, 3) := by decide +kernel
theorem dX7_find_16 : decode cX7_find 16 = .ok (.ifCond .ne 5, 3) := by decide +kernel
theorem dX7_find_19 : decode cX7_find 19 = .ok (.iconst 0, 1) := by decide +kernel
theorem dX7_find_20 : decode cX7_find 20 = .ok (.ireturn, 1) := by decide +kernel
theorem dX7_find_21 : decode cX7_find 21 = .ok (.aload_n 0, 1) := by decide +kernel
theorem dX7_find_22 : decode cX7_find 22 = .ok (.iconst 0, 1) := by decide +kernel
theorem dX7_find_23 : decode cX7_find 23 = .ok (.aload_n 0, 1) := by decide +kernel
theorem dX7_find_24 : decode cX7_find 24 = .ok (.getfield 65, 3) := by decide +kernel
theorem dX7_find_27 : decode cX7_find 27 = .ok (.invokevirtual 55, 3) := by decide +kernel
theorem dX7_find_30 : decode cX7_find 30 = .ok (.istore_n 1, 1) := by decide +kernel
theorem dX7_find_31 : decode cX7_find 31 = .ok (.iload_n 1, 1) := by decide +kernel
theorem dX7_find_32 : decode cX7_find 32 = .ok (.bipush (-2), 2) := by decide +kernel
theorem dX7_find_34 : decode cX7_find 34 = .ok (.if_icmp .ne 8, 3) := by decide +kernel
theorem dX7_find_37 : decode cX7_find 37 = .ok (.bipush (-2), 2) := by decide +kernel
theorem dX7_find_39 : decode cX7_find 39 = .ok (.goto 9, 3) := by decide +kernel
theorem dX7_find_42 : decode cX7_find 42 = .ok (.aload_n 0, 1) := by decide +kernel
theorem dX7_find_43 : decode cX7_find 43 = .ok (.iload_n 1, 1) := by decide +kernel
theorem dX7_find_44 : decode cX7_find 44 = .ok (.iconst 0, 1) := by decide +kernel
theorem dX7_find_45 : decode cX7_find 45 = .ok (.invokevirtual 24, 3) := by decide +kernel
theorem dX7_find_48 : decode cX7_find 48 = .ok (.ireturn, 1) := by decide +kernel
set_option maxRecDepth 20000 in
theorem ggX7_hashOfText_X7_isName : GoodIn wsX7_hashOfText wsX7_isName := goodIn_r _ [6, 1, 7, 8, 9, 5, 10, 20, 21, 22, 23, 24, 25, 26, 27, 28, 29, 30, 31] (by decide +kernel) (by decide +kernel)
set_option maxRecDepth 20000 in
theorem gX7_hashOfText_X7_isName : GoodIn wsX7_hashOfText (wsV RX7 72 RX7 yX7_isName wsX7_isName) := goodIn_app (goodIn_of _ (by decide +kernel)) ggX7_hashOfText_X7_isName
set_option maxRecDepth 20000 in
theorem ggX7_hashOfText_X7_holds : GoodIn wsX7_hashOfText wsX7_holds := goodIn_r _ [14, 15, 20, 21, 22, 23, 24, 25, 26, 27, 28, 29, 30, 31] (by decide +kernel) (by decide +kernel)
set_option maxRecDepth 20000 in
theorem gX7_hashOfText_X7_holds : GoodIn wsX7_hashOfText (wsV RX7 79 RX7 yX7_holds wsX7_holds) := goodIn_app (goodIn_of _ (by decide +kernel)) ggX7_hashOfText_X7_holds
set_option maxRecDepth 20000 in
theorem ggX7_hashOfText_X7_hashOfName : GoodIn wsX7_hashOfText wsX7_hashOfName := goodIn_r _ [19, 7, 20, 21, 22, 23, 24, 25, 26, 27, 28, 29, 30, 31] (by decide +kernel) (by decide +kernel)
set_option maxRecDepth 20000 in
theorem gX7_hashOfText_X7_hashOfName : GoodIn wsX7_hashOfText (wsV RX7 42 RX7 yX7_hashOfName wsX7_hashOfName) := goodIn_app (goodIn_of _ (by decide +kernel)) ggX7_hashOfText_X7_hashOfName
theorem dX7_hashOfText_0 : decode cX7_hashOfText 0 = .ok (.aload_n 0, 1) := by decide +kernel
theorem dX7_hashOfText_1 : decode cX7_hashOfText 1 = .ok (.aload_n 0, 1) := by decide +kernel
theorem dX7_hashOfText_2 : decode cX7_hashOfText 2 = .ok (.invokevirtual 72, 3) := by decide +kernel
theorem dX7_hashOfText_5 : decode cX7_hashOfText 5 = .ok (.ifCond .eq 7, 3) := by decide +kernel
theorem dX7_hashOfText_8 : decode cX7_hashOfText 8 = .ok (.iconst 0, 1) := by decide +kernel
theorem dX7_hashOfText_9 : decode cX7_hashOfText 9 = .ok (.goto 4, 3) := by decide +kernel
theorem dX7_hashOfText_12 : decode cX7_hashOfText 12 = .ok (.iconst 1, 1) := by decide +kernel
theorem dX7_hashOfText_13 : decode cX7_hashOfText 13 = .ok (.invokevirtual 79, 3) := by decide +kernel
theorem dX7_hashOfText_16 : decode cX7_hashOfText 16 = .ok (.ifCond .eq 15, 3) := by decide +kernel
theorem dX7_hashOfText_19 : decode cX7_hashOfText 19 = .ok (.aload_n 0, 1) := by decide +kernel
theorem dX7_hashOfText_20 : decode cX7_hashOfText 20 = .ok (.iconst 0, 1) := by decide +kernel
theorem dX7_hashOfText_21 : decode cX7_hashOfText 21 = .ok (.aload_n 0, 1) := by decide +kernel
theorem dX7_hashOfText_22 : decode cX7_hashOfText 22 = .ok (.getfield 65, 3) := by decide +kernel
theorem dX7_hashOfText_25 : decode cX7_hashOfText 25 = .ok (.invokevirtual 42, 3) := by decide +kernel
theorem dX7_hashOfText_28 : decode cX7_hashOfText 28 = .ok (.goto 4, 3) := by decide +kernel
theorem dX7_hashOfText_31 : decode cX7_hashOfText 31 = .ok (.iconst 0, 1) := by decide +kernel
theorem dX7_hashOfText_32 : decode cX7_hashOfText 32 = .ok (.ireturn, 1) := by decide +kernel
set_option maxRecDepth 20000 in
theorem ggX7_hashOf_X7_placeOf : GoodIn wsX7_hashOf wsX7_placeOf := goodIn_r _ [5, 6, 7, 8, 9, 4, 10, 16, 17, 18, 19, 20, 21, 22, 23, 24, 25, 26, 27] (by decide +kernel) (by decide +kernel)
set_option maxRecDepth 20000 in
theorem gX7_hashOf_X7_placeOf : GoodIn wsX7_hashOf (wsV RX7 89 RX7 yX7_placeOf wsX7_placeOf) := goodIn_app (goodIn_of _ (by decide +kernel)) ggX7_hashOf_X7_placeOf
set_option maxRecDepth 20000 in
theorem ggX7_hashOf_X7_holds : GoodIn wsX7_hashOf wsX7_holds := goodIn_r _ [14, 15, 16, 17, 18, 19, 20, 21, 22, 23, 24, 25, 26, 27] (by decide +kernel) (by decide +kernel)
set_option maxRecDepth 20000 in
theorem gX7_hashOf_X7_holds : GoodIn wsX7_hashOf (wsV RX7 79 RX7 yX7_holds wsX7_holds) := goodIn_app (goodIn_of _ (by decide +kernel)) ggX7_hashOf_X7_holds
set_option maxRecDepth 20000 in
theorem ggX7_hashOf_X7_of : GoodIn wsX7_hashOf wsX7_of := goodIn_r _ [10, 6, 16, 17, 18, 19, 20, 21, 22, 23, 24, 25, 26, 27] (by decide +kernel) (by decide +kernel)
set_option maxRecDepth 20000 in
theorem gX7_hashOf_X7_of : GoodIn wsX7_hashOf (wsV RX7 24 RX7 yX7_of wsX7_of) := goodIn_app (goodIn_of _ (by decide +kernel)) ggX7_hashOf_X7_of
theorem dX7_hashOf_0 : decode cX7_hashOf 0 = .ok (.aload_n 0, 1) := by decide +kernel
theorem dX7_hashOf_1 : decode cX7_hashOf 1 = .ok (.iload_n 1, 1) := by decide +kernel
theorem dX7_hashOf_2 : decode cX7_hashOf 2 = .ok (.invokevirtual 89, 3) := by decide +kernel
theorem dX7_hashOf_5 : decode cX7_hashOf 5 = .ok (.istore_n 2, 1) := by decide +kernel
theorem dX7_hashOf_6 : decode cX7_hashOf 6 = .ok (.aload_n 0, 1) := by decide +kernel
theorem dX7_hashOf_7 : decode cX7_hashOf 7 = .ok (.iload_n 2, 1) := by decide +kernel
theorem dX7_hashOf_8 : decode cX7_hashOf 8 = .ok (.bipush (-2), 2) := by decide +kernel
theorem dX7_hashOf_10 : decode cX7_hashOf 10 = .ok (.if_icmp .ne 7, 3) := by decide +kernel
theorem dX7_hashOf_13 : decode cX7_hashOf 13 = .ok (.iconst 1, 1) := by decide +kernel
theorem dX7_hashOf_14 : decode cX7_hashOf 14 = .ok (.goto 4, 3) := by decide +kernel
theorem dX7_hashOf_17 : decode cX7_hashOf 17 = .ok (.iconst 0, 1) := by decide +kernel
theorem dX7_hashOf_18 : decode cX7_hashOf 18 = .ok (.invokevirtual 79, 3) := by decide +kernel
theorem dX7_hashOf_21 : decode cX7_hashOf 21 = .ok (.ifCond .eq 12, 3) := by decide +kernel
theorem dX7_hashOf_24 : decode cX7_hashOf 24 = .ok (.aload_n 0, 1) := by decide +kernel
theorem dX7_hashOf_25 : decode cX7_hashOf 25 = .ok (.iload_n 2, 1) := by decide +kernel
theorem dX7_hashOf_26 : decode cX7_hashOf 26 = .ok (.iconst 1, 1) := by decide +kernel
theorem dX7_hashOf_27 : decode cX7_hashOf 27 = .ok (.invokevirtual 24, 3) := by decide +kernel
theorem dX7_hashOf_30 : decode cX7_hashOf 30 = .ok (.goto 4, 3) := by decide +kernel
theorem dX7_hashOf_33 : decode cX7_hashOf 33 = .ok (.iconst 0, 1) := by decide +kernel
theorem dX7_hashOf_34 : decode cX7_hashOf 34 = .ok (.ireturn, 1) := by decide +kernel
set_option maxRecDepth 20000 in
theorem ggX7_letterOf_X7_placeOf : GoodIn wsX7_letterOf wsX7_placeOf := goodIn_r _ [5, 6, 7, 8, 9, 4, 10, 16, 17, 18, 19, 20, 21, 22, 23, 24, 25, 26, 27] (by decide +kernel) (by decide +kernel)
set_option maxRecDepth 20000 in
theorem gX7_letterOf_X7_placeOf : GoodIn wsX7_letterOf (wsV RX7 89 RX7 yX7_placeOf wsX7_placeOf) := goodIn_app (goodIn_of _ (by decide +kernel)) ggX7_letterOf_X7_placeOf
set_option maxRecDepth 20000 in
theorem ggX7_letterOf_X7_holds : GoodIn wsX7_letterOf wsX7_holds := goodIn_r _ [14, 15, 16, 17, 18, 19, 20, 21, 22, 23, 24, 25, 26, 27] (by decide +kernel) (by decide +kernel)
set_option maxRecDepth 20000 in
theorem gX7_letterOf_X7_holds : GoodIn wsX7_letterOf (wsV RX7 79 RX7 yX7_holds wsX7_holds) := goodIn_app (goodIn_of _ (by decide +kernel)) ggX7_letterOf_X7_holds
set_option maxRecDepth 20000 in
theorem ggX7_letterOf_X7_of : GoodIn wsX7_letterOf wsX7_of := goodIn_r _ [10, 6, 16, 17, 18, 19, 20, 21, 22, 23, 24, 25, 26, 27] (by decide +kernel) (by decide +kernel)
set_option maxRecDepth 20000 in
theorem gX7_letterOf_X7_of : GoodIn wsX7_letterOf (wsV RX7 24 RX7 yX7_of wsX7_of) := goodIn_app (goodIn_of _ (by decide +kernel)) ggX7_letterOf_X7_of
theorem dX7_letterOf_0 : decode cX7_letterOf 0 = .ok (.aload_n 0, 1) := by decide +kernel
theorem dX7_letterOf_1 : decode cX7_letterOf 1 = .ok (.iload_n 1, 1) := by decide +kernel
theorem dX7_letterOf_2 : decode cX7_letterOf 2 = .ok (.invokevirtual 89, 3) := by decide +kernel
theorem dX7_letterOf_5 : decode cX7_letterOf 5 = .ok (.istore_n 3, 1) := by decide +kernel
theorem dX7_letterOf_6 : decode cX7_letterOf 6 = .ok (.aload_n 0, 1) := by decide +kernel
theorem dX7_letterOf_7 : decode cX7_letterOf 7 = .ok (.iload_n 3, 1) := by decide +kernel
theorem dX7_letterOf_8 : decode cX7_letterOf 8 = .ok (.bipush (-2), 2) := by decide +kernel
theorem dX7_letterOf_10 : decode cX7_letterOf 10 = .ok (.if_icmp .eq 7, 3) := by decide +kernel
theorem dX7_letterOf_13 : decode cX7_letterOf 13 = .ok (.iload_n 2, 1) := by decide +kernel
theorem dX7_letterOf_14 : decode cX7_letterOf 14 = .ok (.ifCond .ge 7, 3) := by decide +kernel
theorem dX7_letterOf_17 : decode cX7_letterOf 17 = .ok (.iconst 1, 1) := by decide +kernel
theorem dX7_letterOf_18 : decode cX7_letterOf 18 = .ok (.goto 4, 3) := by decide +kernel
theorem dX7_letterOf_21 : decode cX7_letterOf 21 = .ok (.iconst 0, 1) := by decide +kernel
theorem dX7_letterOf_22 : decode cX7_letterOf 22 = .ok (.invokevirtual 79, 3) := by decide +kernel
theorem dX7_letterOf_25 : decode cX7_letterOf 25 = .ok (.ifCond .ne 5, 3) := by decide +kernel
theorem dX7_letterOf_28 : decode cX7_letterOf 28 = .ok (.iconst 0, 1) := by decide +kernel
theorem dX7_letterOf_29 : decode cX7_letterOf 29 = .ok (.ireturn, 1) := by decide +kernel
theorem dX7_letterOf_30 : decode cX7_letterOf 30 = .ok (.iload_n 2, 1) := by decide +kernel
theorem dX7_letterOf_31 : decode cX7_letterOf 31 = .ok (.aload_n 0, 1) := by decide +kernel
theorem dX7_letterOf_32 : decode cX7_letterOf 32 = .ok (.iload_n 3, 1) := by decide +kernel
theorem dX7_letterOf_33 : decode cX7_letterOf 33 = .ok (.iconst 2, 1) := by decide +kernel
theorem dX7_letterOf_34 : decode cX7_letterOf 34 = .ok (.invokevirtual 24, 3) := by decide +kernel
theorem dX7_letterOf_37 : decode cX7_letterOf 37 = .ok (.if_icmp .ge 14, 3) := by decide +kernel
theorem dX7_letterOf_40 : decode cX7_letterOf 40 = .ok (.aload_n 0, 1) := by decide +kernel
theorem dX7_letterOf_41 : decode cX7_letterOf 41 = .ok (.iload_n 3, 1) := by decide +kernel
theorem dX7_letterOf_42 : decode cX7_letterOf 42 = .ok (.iconst 3, 1) := by decide +kernel
theorem dX7_letterOf_43 : decode cX7_letterOf 43 = .ok (.iload_n 2, 1) := by decide +kernel
theorem dX7_letterOf_44 : decode cX7_letterOf 44 = .ok (.iadd, 1) := by decide +kernel
theorem dX7_letterOf_45 : decode cX7_letterOf 45 = .ok (.invokevirtual 24, 3) := by decide +kernel
theorem dX7_letterOf_48 : decode cX7_letterOf 48 = .ok (.goto 5, 3) := by decide +kernel
theorem dX7_letterOf_51 : decode cX7_letterOf 51 = .ok (.bipush (-2), 2) := by decide +kernel
theorem dX7_letterOf_53 : decode cX7_letterOf 53 = .ok (.ireturn, 1) := by decide +kernel
set_option maxRecDepth 20000 in
theorem ggX7_isHash_X7_in : GoodIn wsX7_isHash wsX7_in := goodIn_r _ [4] (by decide +kernel) (by decide +kernel)
set_option maxRecDepth 20000 in
theorem gX7_isHash_X7_in : GoodIn wsX7_isHash (va_wsS RX7 68 yX7_in wsX7_in) := goodIn_app (goodIn_of _ (by decide +kernel)) ggX7_isHash_X7_in
theorem dX7_isHash_0 : decode cX7_isHash 0 = .ok (.iload_n 0, 1) := by decide +kernel
theorem dX7_isHash_1 : decode cX7_isHash 1 = .ok (.iconst 0, 1) := by decide +kernel
theorem dX7_isHash_2 : decode cX7_isHash 2 = .ok (.bipush 63, 2) := by decide +kernel
theorem dX7_isHash_4 : decode cX7_isHash 4 = .ok (.invokestatic 68, 3) := by decide +kernel
theorem dX7_isHash_7 : decode cX7_isHash 7 = .ok (.ireturn, 1) := by decide +kernel
set_option maxRecDepth 20000 in
theorem ggX7_withHash_X7_isHash : GoodIn wsX7_withHash wsX7_isHash := goodIn_r _ [4, 5, 6, 3, 7] (by decide +kernel) (by decide +kernel)
set_option maxRecDepth 20000 in
theorem gX7_withHash_X7_isHash : GoodIn wsX7_withHash (va_wsS RX7 142 yX7_isHash wsX7_isHash) := goodIn_app (goodIn_of _ (by decide +kernel)) ggX7_withHash_X7_isHash
set_option maxRecDepth 20000 in
theorem ggX7_withHash_X7_holds : GoodIn wsX7_withHash wsX7_holds := goodIn_r _ [11, 12, 22, 23, 24, 25, 26, 27, 28, 29, 30, 31, 32, 33] (by decide +kernel) (by decide +kernel)
set_option maxRecDepth 20000 in
theorem gX7_withHash_X7_holds : GoodIn wsX7_withHash (wsV RX7 79 RX7 yX7_holds wsX7_holds) := goodIn_app (goodIn_of _ (by decide +kernel)) ggX7_withHash_X7_holds
set_option maxRecDepth 20000 in
theorem ggX7_withHash_X7_beginning : GoodIn wsX7_withHash wsX7_beginning := goodIn_r _ [16, 17, 18, 19, 20, 3, 21, 22, 23, 24, 25, 26, 27, 28, 29, 30, 31, 32, 33] (by decide +kernel) (by decide +kernel)
set_option maxRecDepth 20000 in
theorem gX7_withHash_X7_beginning : GoodIn wsX7_withHash (wsV RX7 32 RX7 yX7_beginning wsX7_beginning) := goodIn_app (goodIn_of _ (by decide +kernel)) ggX7_withHash_X7_beginning
theorem dX7_withHash_0 : decode cX7_withHash 0 = .ok (.aload_n 0, 1) := by decide +kernel
theorem dX7_withHash_1 : decode cX7_withHash 1 = .ok (.iload_n 1, 1) := by decide +kernel
theorem dX7_withHash_2 : decode cX7_withHash 2 = .ok (.invokestatic 142, 3) := by decide +kernel
theorem dX7_withHash_5 : decode cX7_withHash 5 = .ok (.ifCond .eq 7, 3) := by decide +kernel
theorem dX7_withHash_8 : decode cX7_withHash 8 = .ok (.iconst 0, 1) := by decide +kernel
theorem dX7_withHash_9 : decode cX7_withHash 9 = .ok (.goto 4, 3) := by decide +kernel
theorem dX7_withHash_12 : decode cX7_withHash 12 = .ok (.iconst 1, 1) := by decide +kernel
theorem dX7_withHash_13 : decode cX7_withHash 13 = .ok (.invokevirtual 79, 3) := by decide +kernel
theorem dX7_withHash_16 : decode cX7_withHash 16 = .ok (.ifCond .eq 13, 3) := by decide +kernel
theorem dX7_withHash_19 : decode cX7_withHash 19 = .ok (.aload_n 0, 1) := by decide +kernel
theorem dX7_withHash_20 : decode cX7_withHash 20 = .ok (.iload_n 1, 1) := by decide +kernel
theorem dX7_withHash_21 : decode cX7_withHash 21 = .ok (.bipush 6, 2) := by decide +kernel
theorem dX7_withHash_23 : decode cX7_withHash 23 = .ok (.invokevirtual 32, 3) := by decide +kernel
theorem dX7_withHash_26 : decode cX7_withHash 26 = .ok (.goto 4, 3) := by decide +kernel
theorem dX7_withHash_29 : decode cX7_withHash 29 = .ok (.iconst 0, 1) := by decide +kernel
theorem dX7_withHash_30 : decode cX7_withHash 30 = .ok (.ireturn, 1) := by decide +kernel
set_option maxRecDepth 20000 in
theorem ggX7_leaves_X7_leavesNow : GoodIn wsX7_leaves wsX7_leavesNow := goodIn_r _ [6, 7, 8, 9, 10, 11, 12, 13, 14, 15, 16, 17, 18, 19] (by decide +kernel) (by decide +kernel)
set_option maxRecDepth 20000 in
theorem gX7_leaves_X7_leavesNow : GoodIn wsX7_leaves (wsV RX7 145 RX7 yX7_leavesNow wsX7_leavesNow) := goodIn_app (goodIn_of _ (by decide +kernel)) ggX7_leaves_X7_leavesNow
theorem dX7_leaves_0 : decode cX7_leaves 0 = .ok (.aload_n 0, 1) := by decide +kernel
theorem dX7_leaves_1 : decode cX7_leaves 1 = .ok (.iconst 0, 1) := by decide +kernel
theorem dX7_leaves_2 : decode cX7_leaves 2 = .ok (.putfield 20, 3) := by decide +kernel
theorem dX7_leaves_5 : decode cX7_leaves 5 = .ok (.aload_n 0, 1) := by decide +kernel
theorem dX7_leaves_6 : decode cX7_leaves 6 = .ok (.invokevirtual 145, 3) := by decide +kernel
theorem dX7_leaves_9 : decode cX7_leaves 9 = .ok (.ireturn, 1) := by decide +kernel
set_option maxRecDepth 20000 in
theorem ggX7_depthOf_X7_isHash : GoodIn wsX7_depthOf wsX7_isHash := goodIn_r _ [4, 5, 6, 3, 7] (by decide +kernel) (by decide +kernel)
set_option maxRecDepth 20000 in
theorem gX7_depthOf_X7_isHash : GoodIn wsX7_depthOf (va_wsS RX7 142 yX7_isHash wsX7_isHash) := goodIn_app (goodIn_of _ (by decide +kernel)) ggX7_depthOf_X7_isHash
set_option maxRecDepth 20000 in
theorem ggX7_depthOf_X7_holds : GoodIn wsX7_depthOf wsX7_holds := goodIn_r _ [11, 12, 18, 19, 20, 21, 22, 23, 24, 25, 26, 27, 28, 29] (by decide +kernel) (by decide +kernel)
set_option maxRecDepth 20000 in
theorem gX7_depthOf_X7_holds : GoodIn wsX7_depthOf (wsV RX7 79 RX7 yX7_holds wsX7_holds) := goodIn_app (goodIn_of _ (by decide +kernel)) ggX7_depthOf_X7_holds
set_option maxRecDepth 20000 in
theorem ggX7_depthOf_X7_depthAt : GoodIn wsX7_depthOf wsX7_depthAt := goodIn_r _ [16, 17, 18, 19, 20, 21, 22, 23, 24, 25, 26, 27, 28, 29] (by decide +kernel) (by decide +kernel)
set_option maxRecDepth 20000 in
theorem gX7_depthOf_X7_depthAt : GoodIn wsX7_depthOf (wsV RX7 28 RX7 yX7_depthAt wsX7_depthAt) := goodIn_app (goodIn_of _ (by decide +kernel)) ggX7_depthOf_X7_depthAt
theorem dX7_depthOf_0 : decode cX7_depthOf 0 = .ok (.aload_n 0, 1) := by decide +kernel
theorem dX7_depthOf_1 : decode cX7_depthOf 1 = .ok (.iload_n 1, 1) := by decide +kernel
theorem dX7_depthOf_2 : decode cX7_depthOf 2 = .ok (.invokestatic 142, 3) := by decide +kernel
theorem dX7_depthOf_5 : decode cX7_depthOf 5 = .ok (.ifCond .eq 7, 3) := by decide +kernel
theorem dX7_depthOf_8 : decode cX7_depthOf 8 = .ok (.iconst 0, 1) := by decide +kernel
theorem dX7_depthOf_9 : decode cX7_depthOf 9 = .ok (.goto 4, 3) := by decide +kernel
theorem dX7_depthOf_12 : decode cX7_depthOf 12 = .ok (.iconst 1, 1) := by decide +kernel
theorem dX7_depthOf_13 : decode cX7_depthOf 13 = .ok (.invokevirtual 79, 3) := by decide +kernel
theorem dX7_depthOf_16 : decode cX7_depthOf 16 = .ok (.ifCond .eq 11, 3) := by decide +kernel
theorem dX7_depthOf_19 : decode cX7_depthOf 19 = .ok (.aload_n 0, 1) := by decide +kernel
theorem dX7_depthOf_20 : decode cX7_depthOf 20 = .ok (.iload_n 1, 1) := by decide +kernel
theorem dX7_depthOf_21 : decode cX7_depthOf 21 = .ok (.invokevirtual 28, 3) := by decide +kernel
theorem dX7_depthOf_24 : decode cX7_depthOf 24 = .ok (.goto 4, 3) := by decide +kernel
theorem dX7_depthOf_27 : decode cX7_depthOf 27 = .ok (.iconst 0, 1) := by decide +kernel
theorem dX7_depthOf_28 : decode cX7_depthOf 28 = .ok (.ireturn, 1) := by decide +kernel
set_option maxRecDepth 20000 in
theorem ggX7_leafSize_X7_isHash : GoodIn wsX7_leafSize wsX7_isHash := goodIn_r _ [4, 5, 6, 3, 7] (by decide +kernel) (by decide +kernel)
set_option maxRecDepth 20000 in
theorem gX7_leafSize_X7_isHash : GoodIn wsX7_leafSize (va_wsS RX7 142 yX7_isHash wsX7_isHash) := goodIn_app (goodIn_of _ (by decide +kernel)) ggX7_leafSize_X7_isHash
set_option maxRecDepth 20000 in
theorem ggX7_leafSize_X7_holds : GoodIn wsX7_leafSize wsX7_holds := goodIn_r _ [11, 12, 26, 27, 28, 29, 30, 31, 32, 33, 34, 35, 36, 37] (by decide +kernel) (by decide +kernel)
set_option maxRecDepth 20000 in
theorem gX7_leafSize_X7_holds : GoodIn wsX7_leafSize (wsV RX7 79 RX7 yX7_holds wsX7_holds) := goodIn_app (goodIn_of _ (by decide +kernel)) ggX7_leafSize_X7_holds
set_option maxRecDepth 20000 in
theorem ggX7_leafSize_X7_depthAt : GoodIn wsX7_leafSize wsX7_depthAt := goodIn_r _ [16, 17, 26, 27, 28, 29, 30, 31, 32, 33, 34, 35, 36, 37] (by decide +kernel) (by decide +kernel)
set_option maxRecDepth 20000 in
theorem gX7_leafSize_X7_depthAt : GoodIn wsX7_leafSize (wsV RX7 28 RX7 yX7_depthAt wsX7_depthAt) := goodIn_app (goodIn_of _ (by decide +kernel)) ggX7_leafSize_X7_depthAt
set_option maxRecDepth 20000 in
theorem ggX7_leafSize_X7_beginning : GoodIn wsX7_leafSize wsX7_beginning := goodIn_r _ [21, 17, 22, 23, 24, 3, 25, 26, 27, 28, 29, 30, 31, 32, 33, 34, 35, 36, 37] (by decide +kernel) (by decide +kernel)
set_option maxRecDepth 20000 in
theorem gX7_leafSize_X7_beginning : GoodIn wsX7_leafSize (wsV RX7 32 RX7 yX7_beginning wsX7_beginning) := goodIn_app (goodIn_of _ (by decide +kernel)) ggX7_leafSize_X7_beginning
theorem dX7_leafSize_0 : decode cX7_leafSize 0 = .ok (.aload_n 0, 1) := by decide +kernel
theorem dX7_leafSize_1 : decode cX7_leafSize 1 = .ok (.iload_n 1, 1) := by decide +kernel
theorem dX7_leafSize_2 : decode cX7_leafSize 2 = .ok (.invokestatic 142, 3) := by decide +kernel
theorem dX7_leafSize_5 : decode cX7_leafSize 5 = .ok (.ifCond .eq 7, 3) := by decide +kernel
theorem dX7_leafSize_8 : decode cX7_leafSize 8 = .ok (.iconst 0, 1) := by decide +kernel
theorem dX7_leafSize_9 : decode cX7_leafSize 9 = .ok (.goto 4, 3) := by decide +kernel
theorem dX7_leafSize_12 : decode cX7_leafSize 12 = .ok (.iconst 1, 1) := by decide +kernel
theorem dX7_leafSize_13 : decode cX7_leafSize 13 = .ok (.invokevirtual 79, 3) := by decide +kernel
theorem dX7_leafSize_16 : decode cX7_leafSize 16 = .ok (.ifCond .eq 16, 3) := by decide +kernel
theorem dX7_leafSize_19 : decode cX7_leafSize 19 = .ok (.aload_n 0, 1) := by decide +kernel
theorem dX7_leafSize_20 : decode cX7_leafSize 20 = .ok (.iload_n 1, 1) := by decide +kernel
theorem dX7_leafSize_21 : decode cX7_leafSize 21 = .ok (.aload_n 0, 1) := by decide +kernel
theorem dX7_leafSize_22 : decode cX7_leafSize 22 = .ok (.iload_n 1, 1) := by decide +kernel
theorem dX7_leafSize_23 : decode cX7_leafSize 23 = .ok (.invokevirtual 28, 3) := by decide +kernel
theorem dX7_leafSize_26 : decode cX7_leafSize 26 = .ok (.invokevirtual 32, 3) := by decide +kernel
theorem dX7_leafSize_29 : decode cX7_leafSize 29 = .ok (.goto 4, 3) := by decide +kernel
theorem dX7_leafSize_32 : decode cX7_leafSize 32 = .ok (.iconst 0, 1) := by decide +kernel
theorem dX7_leafSize_33 : decode cX7_leafSize 33 = .ok (.ireturn, 1) := by decide +kernel
theorem dX7_splits_0 : decode cX7_splits 0 = .ok (.aload_n 0, 1) := by decide +kernel
theorem dX7_splits_1 : decode cX7_splits 1 = .ok (.iconst 0, 1) := by decide +kernel
theorem dX7_splits_2 : decode cX7_splits 2 = .ok (.putfield 20, 3) := by decide +kernel
theorem dX7_splits_5 : decode cX7_splits 5 = .ok (.aload_n 0, 1) := by decide +kernel
theorem dX7_splits_6 : decode cX7_splits 6 = .ok (.getfield 7, 3) := by decide +kernel
theorem dX7_splits_9 : decode cX7_splits 9 = .ok (.iconst 2, 1) := by decide +kernel
theorem dX7_splits_10 : decode cX7_splits 10 = .ok (.iaload, 1) := by decide +kernel
theorem dX7_splits_11 : decode cX7_splits 11 = .ok (.ireturn, 1) := by decide +kernel
theorem dX7_merges_0 : decode cX7_merges 0 = .ok (.aload_n 0, 1) := by decide +kernel
theorem dX7_merges_1 : decode cX7_merges 1 = .ok (.iconst 0, 1) := by decide +kernel
theorem dX7_merges_2 : decode cX7_merges 2 = .ok (.putfield 20, 3) := by decide +kernel
theorem dX7_merges_5 : decode cX7_merges 5 = .ok (.aload_n 0, 1) := by decide +kernel
theorem dX7_merges_6 : decode cX7_merges 6 = .ok (.getfield 7, 3) := by decide +kernel
theorem dX7_merges_9 : decode cX7_merges 9 = .ok (.iconst 3, 1) := by decide +kernel
theorem dX7_merges_10 : decode cX7_merges 10 = .ok (.iaload, 1) := by decide +kernel
theorem dX7_merges_11 : decode cX7_merges 11 = .ok (.ireturn, 1) := by decide +kernel
set_option maxRecDepth 20000 in
theorem ggX7_meanLeafSize_X7_leavesNow : GoodIn wsX7_meanLeafSize wsX7_leavesNow := goodIn_r _ [7, 2, 8, 9, 10, 11, 12, 13, 14, 15, 16, 17, 18, 19] (by decide +kernel) (by decide +kernel)
set_option maxRecDepth 20000 in
theorem gX7_meanLeafSize_X7_leavesNow : GoodIn wsX7_meanLeafSize (wsV RX7 145 RX7 yX7_leavesNow wsX7_leavesNow) := goodIn_app (goodIn_of _ (by decide +kernel)) ggX7_meanLeafSize_X7_leavesNow
theorem dX7_meanLeafSize_0 : decode cX7_meanLeafSize 0 = .ok (.aload_n 0, 1) := by decide +kernel
theorem dX7_meanLeafSize_1 : decode cX7_meanLeafSize 1 = .ok (.iconst 0, 1) := by decide +kernel
theorem dX7_meanLeafSize_2 : decode cX7_meanLeafSize 2 = .ok (.putfield 20, 3) := by decide +kernel
theorem dX7_meanLeafSize_5 : decode cX7_meanLeafSize 5 = .ok (.aload_n 0, 1) := by decide +kernel
theorem dX7_meanLeafSize_6 : decode cX7_meanLeafSize 6 = .ok (.getfield 7, 3) := by decide +kernel
theorem dX7_meanLeafSize_9 : decode cX7_meanLeafSize 9 = .ok (.iconst 0, 1) := by decide +kernel
theorem dX7_meanLeafSize_10 : decode cX7_meanLeafSize 10 = .ok (.iaload, 1) := by decide +kernel
theorem dX7_meanLeafSize_11 : decode cX7_meanLeafSize 11 = .ok (.i2f, 1) := by decide +kernel
theorem dX7_meanLeafSize_12 : decode cX7_meanLeafSize 12 = .ok (.aload_n 0, 1) := by decide +kernel
theorem dX7_meanLeafSize_13 : decode cX7_meanLeafSize 13 = .ok (.invokevirtual 145, 3) := by decide +kernel
theorem dX7_meanLeafSize_16 : decode cX7_meanLeafSize 16 = .ok (.i2f, 1) := by decide +kernel
theorem dX7_meanLeafSize_17 : decode cX7_meanLeafSize 17 = .ok (.fdiv, 1) := by decide +kernel
theorem dX7_meanLeafSize_18 : decode cX7_meanLeafSize 18 = .ok (.freturn, 1) := by decide +kernel
set_option maxRecDepth 20000 in
theorem ggX7_leavesIfAdded_X7_isName : GoodIn wsX7_leavesIfAdded wsX7_isName := goodIn_r _ [7, 1, 8, 9, 10, 6, 11, 45, 46, 47, 48, 49, 50, 51, 52, 53, 54, 55, 56] (by decide +kernel) (by decide +kernel)
set_option maxRecDepth 20000 in
theorem gX7_leavesIfAdded_X7_isName : GoodIn wsX7_leavesIfAdded (wsV RX7 72 RX7 yX7_isName wsX7_isName) := goodIn_app (goodIn_of _ (by decide +kernel)) ggX7_leavesIfAdded_X7_isName
set_option maxRecDepth 20000 in
theorem ggX7_leavesIfAdded_X7_canMake : GoodIn wsX7_leavesIfAdded wsX7_canMake := goodIn_r _ [15, 2, 16, 17, 18, 6, 19, 8, 20, 21, 22, 23, 45, 46, 47, 48, 49, 50, 51, 52, 53, 54, 55, 56] (by decide +kernel) (by decide +kernel)
set_option maxRecDepth 20000 in
theorem gX7_leavesIfAdded_X7_canMake : GoodIn wsX7_leavesIfAdded (wsV RX7 76 RX7 yX7_canMake wsX7_canMake) := goodIn_app (goodIn_of _ (by decide +kernel)) ggX7_leavesIfAdded_X7_canMake
set_option maxRecDepth 20000 in
theorem ggX7_leavesIfAdded_X7_holds : GoodIn wsX7_leavesIfAdded wsX7_holds := goodIn_r _ [27, 28, 45, 46, 47, 48, 49, 50, 51, 52, 53, 54, 55, 56] (by decide +kernel) (by decide +kernel)
set_option maxRecDepth 20000 in
theorem gX7_leavesIfAdded_X7_holds : GoodIn wsX7_leavesIfAdded (wsV RX7 79 RX7 yX7_holds wsX7_holds) := goodIn_app (goodIn_of _ (by decide +kernel)) ggX7_leavesIfAdded_X7_holds
set_option maxRecDepth 20000 in
theorem ggX7_leavesIfAdded_X7_hashOfName : GoodIn wsX7_leavesIfAdded wsX7_hashOfName := goodIn_r _ [32, 8, 45, 46, 47, 48, 49, 50, 51, 52, 53, 54, 55, 56] (by decide +kernel) (by decide +kernel)
set_option maxRecDepth 20000 in
theorem gX7_leavesIfAdded_X7_hashOfName : GoodIn wsX7_leavesIfAdded (wsV RX7 42 RX7 yX7_hashOfName wsX7_hashOfName) := goodIn_app (goodIn_of _ (by decide +kernel)) ggX7_leavesIfAdded_X7_hashOfName
set_option maxRecDepth 20000 in
theorem ggX7_leavesIfAdded_X7_depthAt : GoodIn wsX7_leavesIfAdded wsX7_depthAt := goodIn_r _ [36, 2, 45, 46, 47, 48, 49, 50, 51, 52, 53, 54, 55, 56] (by decide +kernel) (by decide +kernel)
set_option maxRecDepth 20000 in
theorem gX7_leavesIfAdded_X7_depthAt : GoodIn wsX7_leavesIfAdded (wsV RX7 28 RX7 yX7_depthAt wsX7_depthAt) := goodIn_app (goodIn_of _ (by decide +kernel)) ggX7_leavesIfAdded_X7_depthAt
set_option maxRecDepth 20000 in
theorem ggX7_leavesIfAdded_X7_beginning : GoodIn wsX7_leavesIfAdded wsX7_beginning := goodIn_r _ [40, 2, 20, 21, 22, 6, 23, 45, 46, 47, 48, 49, 50, 51, 52, 53, 54, 55, 56] (by decide +kernel) (by decide +kernel)
set_option maxRecDepth 20000 in
theorem gX7_leavesIfAdded_X7_beginning : GoodIn wsX7_leavesIfAdded (wsV RX7 32 RX7 yX7_beginning wsX7_beginning) := goodIn_app (goodIn_of _ (by decide +kernel)) ggX7_leavesIfAdded_X7_beginning
set_option maxRecDepth 20000 in
theorem ggX7_leavesIfAdded_X7_leavesNow : GoodIn wsX7_leavesIfAdded wsX7_leavesNow := goodIn_r _ [44, 2, 45, 46, 47, 48, 49, 50, 51, 52, 53, 54, 55, 56] (by decide +kernel) (by decide +kernel)
set_option maxRecDepth 20000 in
theorem gX7_leavesIfAdded_X7_leavesNow : GoodIn wsX7_leavesIfAdded (wsV RX7 145 RX7 yX7_leavesNow wsX7_leavesNow) := goodIn_app (goodIn_of _ (by decide +kernel)) ggX7_leavesIfAdded_X7_leavesNow
theorem dX7_leavesIfAdded_0 : decode cX7_leavesIfAdded 0 = .ok (.aload_n 0, 1) := by decide +kernel
theorem dX7_leavesIfAdded_1 : decode cX7_leavesIfAdded 1 = .ok (.invokevirtual 72, 3) := by decide +kernel
theorem dX7_leavesIfAdded_4 : decode cX7_leavesIfAdded 4 = .ok (.istore_n 1, 1) := by decide +kernel
theorem dX7_leavesIfAdded_5 : decode cX7_leavesIfAdded 5 = .ok (.aload_n 0, 1) := by decide +kernel
theorem dX7_leavesIfAdded_6 : decode cX7_leavesIfAdded 6 = .ok (.iload_n 1, 1) := by decide +kernel
theorem dX7_leavesIfAdded_7 : decode cX7_leavesIfAdded 7 = .ok (.ifCond .ne 7, 3) := by decide +kernel
theorem dX7_leavesIfAdded_10 : decode cX7_leavesIfAdded 10 = .ok (.iconst 1, 1) := by decide +kernel
theorem dX7_leavesIfAdded_11 : decode cX7_leavesIfAdded 11 = .ok (.goto 31, 3) := by decide +kernel
theorem dX7_leavesIfAdded_14 : decode cX7_leavesIfAdded 14 = .ok (.aload_n 0, 1) := by decide +kernel
theorem dX7_leavesIfAdded_15 : decode cX7_leavesIfAdded 15 = .ok (.iconst 0, 1) := by decide +kernel
theorem dX7_leavesIfAdded_16 : decode cX7_leavesIfAdded 16 = .ok (.aload_n 0, 1) := by decide +kernel
theorem dX7_leavesIfAdded_17 : decode cX7_leavesIfAdded 17 = .ok (.getfield 65, 3) := by decide +kernel
theorem dX7_leavesIfAdded_20 : decode cX7_leavesIfAdded 20 = .ok (.invokevirtual 76, 3) := by decide +kernel
theorem dX7_leavesIfAdded_23 : decode cX7_leavesIfAdded 23 = .ok (.ifCond .eq 14, 3) := by decide +kernel
theorem dX7_leavesIfAdded_26 : decode cX7_leavesIfAdded 26 = .ok (.aload_n 0, 1) := by decide +kernel
theorem dX7_leavesIfAdded_27 : decode cX7_leavesIfAdded 27 = .ok (.getfield 7, 3) := by decide +kernel
theorem dX7_leavesIfAdded_30 : decode cX7_leavesIfAdded 30 = .ok (.iconst 0, 1) := by decide +kernel
theorem dX7_leavesIfAdded_31 : decode cX7_leavesIfAdded 31 = .ok (.iaload, 1) := by decide +kernel
theorem dX7_leavesIfAdded_32 : decode cX7_leavesIfAdded 32 = .ok (.bipush 40, 2) := by decide +kernel
theorem dX7_leavesIfAdded_34 : decode cX7_leavesIfAdded 34 = .ok (.if_icmp .ne 7, 3) := by decide +kernel
theorem dX7_leavesIfAdded_37 : decode cX7_leavesIfAdded 37 = .ok (.iconst 2, 1) := by decide +kernel
theorem dX7_leavesIfAdded_38 : decode cX7_leavesIfAdded 38 = .ok (.goto 4, 3) := by decide +kernel
theorem dX7_leavesIfAdded_41 : decode cX7_leavesIfAdded 41 = .ok (.iconst 0, 1) := by decide +kernel
theorem dX7_leavesIfAdded_42 : decode cX7_leavesIfAdded 42 = .ok (.invokevirtual 79, 3) := by decide +kernel
theorem dX7_leavesIfAdded_45 : decode cX7_leavesIfAdded 45 = .ok (.ifCond .ne 5, 3) := by decide +kernel
theorem dX7_leavesIfAdded_48 : decode cX7_leavesIfAdded 48 = .ok (.iconst 0, 1) := by decide +kernel
theorem dX7_leavesIfAdded_49 : decode cX7_leavesIfAdded 49 = .ok (.ireturn, 1) := by decide +kernel
theorem dX7_leavesIfAdded_50 : decode cX7_leavesIfAdded 50 = .ok (.aload_n 0, 1) := by decide +kernel
theorem dX7_leavesIfAdded_51 : decode cX7_leavesIfAdded 51 = .ok (.iconst 0, 1) := by decide +kernel
theorem dX7_leavesIfAdded_52 : decode cX7_leavesIfAdded 52 = .ok (.aload_n 0, 1) := by decide +kernel
theorem dX7_leavesIfAdded_53 : decode cX7_leavesIfAdded 53 = .ok (.getfield 65, 3) := by decide +kernel
theorem dX7_leavesIfAdded_56 : decode cX7_leavesIfAdded 56 = .ok (.invokevirtual 42, 3) := by decide +kernel
theorem dX7_leavesIfAdded_59 : decode cX7_leavesIfAdded 59 = .ok (.istore_n 2, 1) := by decide +kernel
theorem dX7_leavesIfAdded_60 : decode cX7_leavesIfAdded 60 = .ok (.aload_n 0, 1) := by decide +kernel
theorem dX7_leavesIfAdded_61 : decode cX7_leavesIfAdded 61 = .ok (.iload_n 2, 1) := by decide +kernel
theorem dX7_leavesIfAdded_62 : decode cX7_leavesIfAdded 62 = .ok (.invokevirtual 28, 3) := by decide +kernel
theorem dX7_leavesIfAdded_65 : decode cX7_leavesIfAdded 65 = .ok (.istore_n 3, 1) := by decide +kernel
theorem dX7_leavesIfAdded_66 : decode cX7_leavesIfAdded 66 = .ok (.iconst 0, 1) := by decide +kernel
theorem dX7_leavesIfAdded_67 : decode cX7_leavesIfAdded 67 = .ok (.istore 4, 2) := by decide +kernel
theorem dX7_leavesIfAdded_69 : decode cX7_leavesIfAdded 69 = .ok (.iload_n 3, 1) := by decide +kernel
theorem dX7_leavesIfAdded_70 : decode cX7_leavesIfAdded 70 = .ok (.iload 4, 2) := by decide +kernel
theorem dX7_leavesIfAdded_72 : decode cX7_leavesIfAdded 72 = .ok (.iadd, 1) := by decide +kernel
theorem dX7_leavesIfAdded_73 : decode cX7_leavesIfAdded 73 = .ok (.bipush 6, 2) := by decide +kernel
theorem dX7_leavesIfAdded_75 : decode cX7_leavesIfAdded 75 = .ok (.if_icmp .ge 24, 3) := by decide +kernel
theorem dX7_leavesIfAdded_78 : decode cX7_leavesIfAdded 78 = .ok (.aload_n 0, 1) := by decide +kernel
theorem dX7_leavesIfAdded_79 : decode cX7_leavesIfAdded 79 = .ok (.iload_n 2, 1) := by decide +kernel
theorem dX7_leavesIfAdded_80 : decode cX7_leavesIfAdded 80 = .ok (.iload_n 3, 1) := by decide +kernel
theorem dX7_leavesIfAdded_81 : decode cX7_leavesIfAdded 81 = .ok (.iload 4, 2) := by decide +kernel
theorem dX7_leavesIfAdded_83 : decode cX7_leavesIfAdded 83 = .ok (.iadd, 1) := by decide +kernel
theorem dX7_leavesIfAdded_84 : decode cX7_leavesIfAdded 84 = .ok (.invokevirtual 32, 3) := by decide +kernel
theorem dX7_leavesIfAdded_87 : decode cX7_leavesIfAdded 87 = .ok (.iconst 1, 1) := by decide +kernel
theorem dX7_leavesIfAdded_88 : decode cX7_leavesIfAdded 88 = .ok (.iadd, 1) := by decide +kernel
theorem dX7_leavesIfAdded_89 : decode cX7_leavesIfAdded 89 = .ok (.iconst 4, 1) := by decide +kernel
theorem dX7_leavesIfAdded_90 : decode cX7_leavesIfAdded 90 = .ok (.if_icmp .le 9, 3) := by decide +kernel
theorem dX7_leavesIfAdded_93 : decode cX7_leavesIfAdded 93 = .ok (.iinc 4 1, 3) := by decide +kernel
theorem dX7_leavesIfAdded_96 : decode cX7_leavesIfAdded 96 = .ok (.goto (-27), 3) := by decide +kernel
theorem dX7_leavesIfAdded_99 : decode cX7_leavesIfAdded 99 = .ok (.aload_n 0, 1) := by decide +kernel
theorem dX7_leavesIfAdded_100 : decode cX7_leavesIfAdded 100 = .ok (.invokevirtual 145, 3) := by decide +kernel
theorem dX7_leavesIfAdded_103 : decode cX7_leavesIfAdded 103 = .ok (.iload 4, 2) := by decide +kernel
theorem dX7_leavesIfAdded_105 : decode cX7_leavesIfAdded 105 = .ok (.iadd, 1) := by decide +kernel
theorem dX7_leavesIfAdded_106 : decode cX7_leavesIfAdded 106 = .ok (.ireturn, 1) := by decide +kernel
set_option maxRecDepth 20000 in
theorem ggX7_position_X7_isReader : GoodIn wsX7_position wsX7_isReader := goodIn_r _ [5, 6, 7, 4, 8] (by decide +kernel) (by decide +kernel)
set_option maxRecDepth 20000 in
theorem gX7_position_X7_isReader : GoodIn wsX7_position (va_wsS RX7 95 yX7_isReader wsX7_isReader) := goodIn_app (goodIn_of _ (by decide +kernel)) ggX7_position_X7_isReader
set_option maxRecDepth 20000 in
theorem ggX7_position_X7_holds : GoodIn wsX7_position wsX7_holds := goodIn_r _ [12, 13, 14, 15, 16, 17, 18, 19, 20, 21, 22, 23, 24, 25] (by decide +kernel) (by decide +kernel)
set_option maxRecDepth 20000 in
theorem gX7_position_X7_holds : GoodIn wsX7_position (wsV RX7 79 RX7 yX7_holds wsX7_holds) := goodIn_app (goodIn_of _ (by decide +kernel)) ggX7_position_X7_holds
theorem dX7_position_0 : decode cX7_position 0 = .ok (.aload_n 0, 1) := by decide +kernel
theorem dX7_position_1 : decode cX7_position 1 = .ok (.iload_n 1, 1) := by decide +kernel
theorem dX7_position_2 : decode cX7_position 2 = .ok (.invokestatic 95, 3) := by decide +kernel
theorem dX7_position_5 : decode cX7_position 5 = .ok (.ifCond .eq 7, 3) := by decide +kernel
theorem dX7_position_8 : decode cX7_position 8 = .ok (.iconst 0, 1) := by decide +kernel
theorem dX7_position_9 : decode cX7_position 9 = .ok (.goto 4, 3) := by decide +kernel
theorem dX7_position_12 : decode cX7_position 12 = .ok (.iconst 1, 1) := by decide +kernel
theorem dX7_position_13 : decode cX7_position 13 = .ok (.invokevirtual 79, 3) := by decide +kernel
theorem dX7_position_16 : decode cX7_position 16 = .ok (.ifCond .eq 14, 3) := by decide +kernel
theorem dX7_position_19 : decode cX7_position 19 = .ok (.aload_n 0, 1) := by decide +kernel
theorem dX7_position_20 : decode cX7_position 20 = .ok (.getfield 7, 3) := by decide +kernel
theorem dX7_position_23 : decode cX7_position 23 = .ok (.iconst 4, 1) := by decide +kernel
theorem dX7_position_24 : decode cX7_position 24 = .ok (.iload_n 1, 1) := by decide +kernel
theorem dX7_position_25 : decode cX7_position 25 = .ok (.iadd, 1) := by decide +kernel
theorem dX7_position_26 : decode cX7_position 26 = .ok (.iaload, 1) := by decide +kernel
theorem dX7_position_27 : decode cX7_position 27 = .ok (.goto 4, 3) := by decide +kernel
theorem dX7_position_30 : decode cX7_position 30 = .ok (.iconst 0, 1) := by decide +kernel
theorem dX7_position_31 : decode cX7_position 31 = .ok (.ireturn, 1) := by decide +kernel
set_option maxRecDepth 20000 in
theorem ggX7_peek_X7_isReader : GoodIn wsX7_peek wsX7_isReader := goodIn_r _ [5, 6, 7, 4, 8] (by decide +kernel) (by decide +kernel)
set_option maxRecDepth 20000 in
theorem gX7_peek_X7_isReader : GoodIn wsX7_peek (va_wsS RX7 95 yX7_isReader wsX7_isReader) := goodIn_app (goodIn_of _ (by decide +kernel)) ggX7_peek_X7_isReader
set_option maxRecDepth 20000 in
theorem ggX7_peek_X7_holds : GoodIn wsX7_peek wsX7_holds := goodIn_r _ [12, 13, 30, 31, 32, 33, 34, 35, 36, 37, 38, 39, 40, 41] (by decide +kernel) (by decide +kernel)
set_option maxRecDepth 20000 in
theorem gX7_peek_X7_holds : GoodIn wsX7_peek (wsV RX7 79 RX7 yX7_holds wsX7_holds) := goodIn_app (goodIn_of _ (by decide +kernel)) ggX7_peek_X7_holds
set_option maxRecDepth 20000 in
theorem ggX7_peek_X7_nextPlace : GoodIn wsX7_peek wsX7_nextPlace := goodIn_r _ [17, 1, 18, 19, 20, 4, 21, 22, 23, 24, 25, 30, 31, 32, 33, 34, 35, 36, 37, 38, 39, 40, 41] (by decide +kernel) (by decide +kernel)
set_option maxRecDepth 20000 in
theorem gX7_peek_X7_nextPlace : GoodIn wsX7_peek (wsV RX7 104 RX7 yX7_nextPlace wsX7_nextPlace) := goodIn_app (goodIn_of _ (by decide +kernel)) ggX7_peek_X7_nextPlace
set_option maxRecDepth 20000 in
theorem ggX7_peek_X7_isOpen : GoodIn wsX7_peek wsX7_isOpen := goodIn_r _ [29, 1, 2, 3, 4, 5, 6, 7, 8, 30, 31, 32, 33, 34, 35, 36, 37, 38, 39, 40, 41] (by decide +kernel) (by decide +kernel)
set_option maxRecDepth 20000 in
theorem gX7_peek_X7_isOpen : GoodIn wsX7_peek (wsV RX7 98 RX7 yX7_isOpen wsX7_isOpen) := goodIn_app (goodIn_of _ (by decide +kernel)) ggX7_peek_X7_isOpen
set_option maxRecDepth 20000 in
theorem ggX7_peek_X7_of : GoodIn wsX7_peek wsX7_of := goodIn_r _ [25, 1, 30, 31, 32, 33, 34, 35, 36, 37, 38, 39, 40, 41] (by decide +kernel) (by decide +kernel)
set_option maxRecDepth 20000 in
theorem gX7_peek_X7_of : GoodIn wsX7_peek (wsV RX7 24 RX7 yX7_of wsX7_of) := goodIn_app (goodIn_of _ (by decide +kernel)) ggX7_peek_X7_of
theorem dX7_peek_0 : decode cX7_peek 0 = .ok (.aload_n 0, 1) := by decide +kernel
theorem dX7_peek_1 : decode cX7_peek 1 = .ok (.iload_n 1, 1) := by decide +kernel
theorem dX7_peek_2 : decode cX7_peek 2 = .ok (.invokestatic 95, 3) := by decide +kernel
theorem dX7_peek_5 : decode cX7_peek 5 = .ok (.ifCond .eq 7, 3) := by decide +kernel
theorem dX7_peek_8 : decode cX7_peek 8 = .ok (.iconst 0, 1) := by decide +kernel
theorem dX7_peek_9 : decode cX7_peek 9 = .ok (.goto 4, 3) := by decide +kernel
theorem dX7_peek_12 : decode cX7_peek 12 = .ok (.iconst 1, 1) := by decide +kernel
theorem dX7_peek_13 : decode cX7_peek 13 = .ok (.invokevirtual 79, 3) := by decide +kernel
theorem dX7_peek_16 : decode cX7_peek 16 = .ok (.ifCond .ne 5, 3) := by decide +kernel
theorem dX7_peek_19 : decode cX7_peek 19 = .ok (.iconst 0, 1) := by decide +kernel
theorem dX7_peek_20 : decode cX7_peek 20 = .ok (.ireturn, 1) := by decide +kernel
theorem dX7_peek_21 : decode cX7_peek 21 = .ok (.aload_n 0, 1) := by decide +kernel
theorem dX7_peek_22 : decode cX7_peek 22 = .ok (.iload_n 1, 1) := by decide +kernel
theorem dX7_peek_23 : decode cX7_peek 23 = .ok (.invokevirtual 104, 3) := by decide +kernel
theorem dX7_peek_26 : decode cX7_peek 26 = .ok (.istore_n 2, 1) := by decide +kernel
theorem dX7_peek_27 : decode cX7_peek 27 = .ok (.aload_n 0, 1) := by decide +kernel
theorem dX7_peek_28 : decode cX7_peek 28 = .ok (.iload_n 1, 1) := by decide +kernel
theorem dX7_peek_29 : decode cX7_peek 29 = .ok (.invokevirtual 98, 3) := by decide +kernel
theorem dX7_peek_32 : decode cX7_peek 32 = .ok (.ifCond .eq 13, 3) := by decide +kernel
theorem dX7_peek_35 : decode cX7_peek 35 = .ok (.iload_n 2, 1) := by decide +kernel
theorem dX7_peek_36 : decode cX7_peek 36 = .ok (.aload_n 0, 1) := by decide +kernel
theorem dX7_peek_37 : decode cX7_peek 37 = .ok (.getfield 7, 3) := by decide +kernel
theorem dX7_peek_40 : decode cX7_peek 40 = .ok (.iconst 0, 1) := by decide +kernel
theorem dX7_peek_41 : decode cX7_peek 41 = .ok (.iaload, 1) := by decide +kernel
theorem dX7_peek_42 : decode cX7_peek 42 = .ok (.if_icmp .ne 8, 3) := by decide +kernel
theorem dX7_peek_45 : decode cX7_peek 45 = .ok (.bipush (-2), 2) := by decide +kernel
theorem dX7_peek_47 : decode cX7_peek 47 = .ok (.goto 9, 3) := by decide +kernel
theorem dX7_peek_50 : decode cX7_peek 50 = .ok (.aload_n 0, 1) := by decide +kernel
theorem dX7_peek_51 : decode cX7_peek 51 = .ok (.iload_n 2, 1) := by decide +kernel
theorem dX7_peek_52 : decode cX7_peek 52 = .ok (.iconst 0, 1) := by decide +kernel
theorem dX7_peek_53 : decode cX7_peek 53 = .ok (.invokevirtual 24, 3) := by decide +kernel
theorem dX7_peek_56 : decode cX7_peek 56 = .ok (.ireturn, 1) := by decide +kernel
set_option maxRecDepth 20000 in
theorem ggX7_remaining_X7_isReader : GoodIn wsX7_remaining wsX7_isReader := goodIn_r _ [5, 6, 7, 4, 8] (by decide +kernel) (by decide +kernel)
set_option maxRecDepth 20000 in
theorem gX7_remaining_X7_isReader : GoodIn wsX7_remaining (va_wsS RX7 95 yX7_isReader wsX7_isReader) := goodIn_app (goodIn_of _ (by decide +kernel)) ggX7_remaining_X7_isReader
set_option maxRecDepth 20000 in
theorem ggX7_remaining_X7_holds : GoodIn wsX7_remaining wsX7_holds := goodIn_r _ [12, 13, 30, 31, 32, 33, 34, 35, 36, 37, 38, 39, 40, 41] (by decide +kernel) (by decide +kernel)
set_option maxRecDepth 20000 in
theorem gX7_remaining_X7_holds : GoodIn wsX7_remaining (wsV RX7 79 RX7 yX7_holds wsX7_holds) := goodIn_app (goodIn_of _ (by decide +kernel)) ggX7_remaining_X7_holds
set_option maxRecDepth 20000 in
theorem ggX7_remaining_X7_isOpen : GoodIn wsX7_remaining wsX7_isOpen := goodIn_r _ [17, 1, 2, 3, 4, 5, 6, 7, 8, 30, 31, 32, 33, 34, 35, 36, 37, 38, 39, 40, 41] (by decide +kernel) (by decide +kernel)
set_option maxRecDepth 20000 in
theorem gX7_remaining_X7_isOpen : GoodIn wsX7_remaining (wsV RX7 98 RX7 yX7_isOpen wsX7_isOpen) := goodIn_app (goodIn_of _ (by decide +kernel)) ggX7_remaining_X7_isOpen
set_option maxRecDepth 20000 in
theorem ggX7_remaining_X7_nextPlace : GoodIn wsX7_remaining wsX7_nextPlace := goodIn_r _ [21, 1, 22, 23, 24, 4, 25, 26, 27, 28, 29, 30, 31, 32, 33, 34, 35, 36, 37, 38, 39, 40, 41] (by decide +kernel) (by decide +kernel)
set_option maxRecDepth 20000 in
theorem gX7_remaining_X7_nextPlace : GoodIn wsX7_remaining (wsV RX7 104 RX7 yX7_nextPlace wsX7_nextPlace) := goodIn_app (goodIn_of _ (by decide +kernel)) ggX7_remaining_X7_nextPlace
theorem dX7_remaining_0 : decode cX7_remaining 0 = .ok (.aload_n 0, 1) := by decide +kernel
theorem dX7_remaining_1 : decode cX7_remaining 1 = .ok (.iload_n 1, 1) := by decide +kernel
theorem dX7_remaining_2 : decode cX7_remaining 2 = .ok (.invokestatic 95, 3) := by decide +kernel
theorem dX7_remaining_5 : decode cX7_remaining 5 = .ok (.ifCond .eq 7, 3) := by decide +kernel
theorem dX7_remaining_8 : decode cX7_remaining 8 = .ok (.iconst 0, 1) := by decide +kernel
theorem dX7_remaining_9 : decode cX7_remaining 9 = .ok (.goto 4, 3) := by decide +kernel
theorem dX7_remaining_12 : decode cX7_remaining 12 = .ok (.iconst 1, 1) := by decide +kernel
theorem dX7_remaining_13 : decode cX7_remaining 13 = .ok (.invokevirtual 79, 3) := by decide +kernel
theorem dX7_remaining_16 : decode cX7_remaining 16 = .ok (.ifCond .ne 5, 3) := by decide +kernel
theorem dX7_remaining_19 : decode cX7_remaining 19 = .ok (.iconst 0, 1) := by decide +kernel
theorem dX7_remaining_20 : decode cX7_remaining 20 = .ok (.ireturn, 1) := by decide +kernel
theorem dX7_remaining_21 : decode cX7_remaining 21 = .ok (.aload_n 0, 1) := by decide +kernel
theorem dX7_remaining_22 : decode cX7_remaining 22 = .ok (.iload_n 1, 1) := by decide +kernel
theorem dX7_remaining_23 : decode cX7_remaining 23 = .ok (.invokevirtual 98, 3) := by decide +kernel
theorem dX7_remaining_26 : decode cX7_remaining 26 = .ok (.ifCond .eq 18, 3) := by decide +kernel
theorem dX7_remaining_29 : decode cX7_remaining 29 = .ok (.aload_n 0, 1) := by decide +kernel
theorem dX7_remaining_30 : decode cX7_remaining 30 = .ok (.getfield 7, 3) := by decide +kernel
theorem dX7_remaining_33 : decode cX7_remaining 33 = .ok (.iconst 0, 1) := by decide +kernel
theorem dX7_remaining_34 : decode cX7_remaining 34 = .ok (.iaload, 1) := by decide +kernel
theorem dX7_remaining_35 : decode cX7_remaining 35 = .ok (.aload_n 0, 1) := by decide +kernel
theorem dX7_remaining_36 : decode cX7_remaining 36 = .ok (.iload_n 1, 1) := by decide +kernel
theorem dX7_remaining_37 : decode cX7_remaining 37 = .ok (.invokevirtual 104, 3) := by decide +kernel
theorem dX7_remaining_40 : decode cX7_remaining 40 = .ok (.isub, 1) := by decide +kernel
theorem dX7_remaining_41 : decode cX7_remaining 41 = .ok (.goto 5, 3) := by decide +kernel
theorem dX7_remaining_44 : decode cX7_remaining 44 = .ok (.bipush (-2), 2) := by decide +kernel
theorem dX7_remaining_46 : decode cX7_remaining 46 = .ok (.ireturn, 1) := by decide +kernel
theorem dX7_savedStates_0 : decode cX7_savedStates 0 = .ok (.aload_n 0, 1) := by decide +kernel
theorem dX7_savedStates_1 : decode cX7_savedStates 1 = .ok (.iconst 0, 1) := by decide +kernel
theorem dX7_savedStates_2 : decode cX7_savedStates 2 = .ok (.putfield 20, 3) := by decide +kernel
theorem dX7_savedStates_5 : decode cX7_savedStates 5 = .ok (.aload_n 0, 1) := by decide +kernel
theorem dX7_savedStates_6 : decode cX7_savedStates 6 = .ok (.getfield 58, 3) := by decide +kernel
theorem dX7_savedStates_9 : decode cX7_savedStates 9 = .ok (.ireturn, 1) := by decide +kernel
theorem dX7_textLength_0 : decode cX7_textLength 0 = .ok (.aload_n 0, 1) := by decide +kernel
theorem dX7_textLength_1 : decode cX7_textLength 1 = .ok (.iconst 0, 1) := by decide +kernel
theorem dX7_textLength_2 : decode cX7_textLength 2 = .ok (.putfield 20, 3) := by decide +kernel
theorem dX7_textLength_5 : decode cX7_textLength 5 = .ok (.aload_n 0, 1) := by decide +kernel
theorem dX7_textLength_6 : decode cX7_textLength 6 = .ok (.getfield 65, 3) := by decide +kernel
theorem dX7_textLength_9 : decode cX7_textLength 9 = .ok (.ireturn, 1) := by decide +kernel
set_option maxRecDepth 20000 in
theorem ggL_add_X6_add : GoodIn wsL_add wsX6_add := goodIn_ca (goodIn_ca (goodIn_r _ [7, 8, 9, 10, 11, 12, 13, 6, 14, 15, 16, 17, 18, 19, 20, 21, 22, 23, 24, 25, 26, 27, 28, 29, 30, 31, 32, 33, 34, 35, 36, 37, 38, 39, 40, 41, 42, 43, 44, 45, 46, 47, 48, 49, 50, 51, 52, 53, 54, 55, 56, 57, 58, 59, 60, 61, 62, 63, 64, 65, 66, 67, 68, 69, 70, 71, 72, 73, 74, 75, 76, 77, 78, 79, 80, 81, 82, 83, 84, 85, 86, 87, 88, 89, 90, 91, 92, 93, 94, 95, 96, 97, 98, 99, 100, 101, 102, 103, 104, 105, 106, 107, 108, 109, 110, 111, 112, 113, 114, 115, 116, 117, 118, 119, 120, 121, 122, 123, 124, 125, 126, 127, 128, 129, 130, 131, 132, 133, 134, 135, 136, 137, 138, 139, 140, 141, 142, 143, 144, 145, 146, 147, 148, 149, 150, 151, 152, 153, 154, 155, 156, 157] (by decide +kernel) (by decide +kernel)) (goodIn_sub (fun _ h => List.mem_cons_of_mem _ (List.mem_append_left _ (List.mem_append_right _ h))) (by decide +kernel))) (goodIn_sub (fun _ h => List.mem_cons_of_mem _ (List.mem_append_right _ h)) (by decide +kernel))
set_option maxRecDepth 20000 in
theorem gL_add_X6_add : GoodIn wsL_add (wsV RL 7 RX6 yX6_add wsX6_add) := goodIn_app (goodIn_of _ (by decide +kernel)) ggL_add_X6_add
theorem dL_add_0 : decode cL_add 0 = .ok (.aload_n 1, 1) := by decide +kernel
theorem dL_add_1 : decode cL_add 1 = .ok (.iconst 0, 1) := by decide +kernel
theorem dL_add_2 : decode cL_add 2 = .ok (.aload_n 0, 1) := by decide +kernel
theorem dL_add_3 : decode cL_add 3 = .ok (.invokevirtual 7, 3) := by decide +kernel
theorem dL_add_6 : decode cL_add 6 = .ok (.i2l, 1) := by decide +kernel
theorem dL_add_7 : decode cL_add 7 = .ok (.lastore, 1) := by decide +kernel
theorem dL_add_8 : decode cL_add 8 = .ok (.goto 9, 3) := by decide +kernel
theorem dL_add_11 : decode cL_add 11 = .ok (.astore_n 2, 1) := by decide +kernel
theorem dL_add_12 : decode cL_add 12 = .ok (.iconst 1, 1) := by decide +kernel
theorem dL_add_13 : decode cL_add 13 = .ok (.ireturn, 1) := by decide +kernel
theorem dL_add_14 : decode cL_add 14 = .ok (.astore_n 2, 1) := by decide +kernel
theorem dL_add_15 : decode cL_add 15 = .ok (.iconst 2, 1) := by decide +kernel
theorem dL_add_16 : decode cL_add 16 = .ok (.ireturn, 1) := by decide +kernel
theorem dL_add_17 : decode cL_add 17 = .ok (.iconst 0, 1) := by decide +kernel
theorem dL_add_18 : decode cL_add 18 = .ok (.ireturn, 1) := by decide +kernel
set_option maxRecDepth 20000 in
theorem ggL_remove_X6_remove : GoodIn wsL_remove wsX6_remove := goodIn_ca (goodIn_r _ [6, 7, 8, 9, 10, 11, 12, 13, 5, 14, 15, 16, 17, 18, 19, 20, 21, 22, 23, 24, 25, 26, 27, 28, 29, 30, 31, 32, 33, 34, 35, 36, 37, 38, 39, 40, 41, 42, 43, 44, 45, 46, 47, 48, 49, 50, 51, 52, 53, 54, 55, 56, 57, 58, 59, 60, 61, 62, 63, 64, 65, 66, 67, 68, 69, 70, 71, 72, 73, 74, 75, 76, 77, 78, 79, 80, 81, 82, 83, 84, 85, 86, 87, 88, 89, 90, 91, 92, 93, 94, 95, 96, 97, 98, 99, 100, 101, 102, 103, 104, 105, 106, 107, 108, 109, 110, 111, 112, 113, 114, 115, 116, 117, 118, 119, 120] (by decide +kernel) (by decide +kernel)) (goodIn_sub (fun _ h => List.mem_cons_of_mem _ (List.mem_append_right _ h)) (by decide +kernel))
set_option maxRecDepth 20000 in
theorem gL_remove_X6_remove : GoodIn wsL_remove (wsV RL 17 RX6 yX6_remove wsX6_remove) := goodIn_app (goodIn_of _ (by decide +kernel)) ggL_remove_X6_remove
theorem dL_remove_0 : decode cL_remove 0 = .ok (.aload_n 2, 1) := by decide +kernel
theorem dL_remove_1 : decode cL_remove 1 = .ok (.iconst 0, 1) := by decide +kernel
theorem dL_remove_2 : decode cL_remove 2 = .ok (.aload_n 0, 1) := by decide +kernel
theorem dL_remove_3 : decode cL_remove 3 = .ok (.iload_n 1, 1) := by decide +kernel
theorem dL_remove_4 : decode cL_remove 4 = .ok (.invokevirtual 17, 3) := by decide +kernel
theorem dL_remove_7 : decode cL_remove 7 = .ok (.i2l, 1) := by decide +kernel
theorem dL_remove_8 : decode cL_remove 8 = .ok (.lastore, 1) := by decide +kernel
theorem dL_remove_9 : decode cL_remove 9 = .ok (.goto 6, 3) := by decide +kernel
theorem dL_remove_12 : decode cL_remove 12 = .ok (.astore_n 3, 1) := by decide +kernel
theorem dL_remove_13 : decode cL_remove 13 = .ok (.iconst 1, 1) := by decide +kernel
theorem dL_remove_14 : decode cL_remove 14 = .ok (.ireturn, 1) := by decide +kernel
theorem dL_remove_15 : decode cL_remove 15 = .ok (.iconst 0, 1) := by decide +kernel
theorem dL_remove_16 : decode cL_remove 16 = .ok (.ireturn, 1) := by decide +kernel
set_option maxRecDepth 20000 in
theorem ggL_rename_X6_rename : GoodIn wsL_rename wsX6_rename := goodIn_ca (goodIn_ca (goodIn_ca (goodIn_r _ [8, 9, 10, 11, 12, 13, 14, 15, 16, 7, 17, 18, 19, 20, 21, 22, 23, 24, 25, 26, 27, 28, 29, 30, 31, 32, 33, 34, 35, 36, 37, 38, 39, 40, 41, 42, 43, 44, 45, 46, 47, 48, 49, 50, 51, 52, 53, 54, 55, 56, 57, 58, 59, 60, 61, 62, 63, 64, 65, 66, 67, 68, 69, 70, 71, 72, 73, 74, 75, 76, 77, 78, 79, 80, 81, 82, 83, 84, 85, 86, 87, 88, 89, 90, 91, 92, 93, 94, 95, 96, 97, 98, 99, 100, 101, 102, 103, 104, 105, 106, 107, 108, 109, 110, 111, 112, 113, 114, 115, 116, 117, 118, 119, 120, 121, 122, 123, 124, 125, 126, 127, 128, 129, 130, 131, 132, 133, 134, 135, 136, 137, 138, 139, 140, 141, 142, 143, 144, 145, 146, 147, 148, 149, 150, 151, 152, 153, 154, 155, 156, 157, 158, 159, 160, 161, 162, 163, 164, 165, 166, 167, 168, 169, 170, 171, 172, 173, 174, 175, 176, 177, 178, 179, 180] (by decide +kernel) (by decide +kernel)) (goodIn_sub (fun _ h => List.mem_cons_of_mem _ (List.mem_append_left _ (List.mem_append_left _ (List.mem_append_right _ h)))) (by decide +kernel))) (goodIn_sub (fun _ h => List.mem_cons_of_mem _ (List.mem_append_left _ (List.mem_append_right _ h))) (by decide +kernel))) (goodIn_sub (fun _ h => List.mem_cons_of_mem _ (List.mem_append_right _ h)) (by decide +kernel))
set_option maxRecDepth 20000 in
theorem gL_rename_X6_rename : GoodIn wsL_rename (wsV RL 23 RX6 yX6_rename wsX6_rename) := goodIn_app (goodIn_of _ (by decide +kernel)) ggL_rename_X6_rename
theorem dL_rename_0 : decode cL_rename 0 = .ok (.aload_n 2, 1) := by decide +kernel
theorem dL_rename_1 : decode cL_rename 1 = .ok (.iconst 0, 1) := by decide +kernel
theorem dL_rename_2 : decode cL_rename 2 = .ok (.aload_n 0, 1) := by decide +kernel
theorem dL_rename_3 : decode cL_rename 3 = .ok (.iload_n 1, 1) := by decide +kernel
theorem dL_rename_4 : decode cL_rename 4 = .ok (.invokevirtual 23, 3) := by decide +kernel
theorem dL_rename_7 : decode cL_rename 7 = .ok (.i2l, 1) := by decide +kernel
theorem dL_rename_8 : decode cL_rename 8 = .ok (.lastore, 1) := by decide +kernel
theorem dL_rename_9 : decode cL_rename 9 = .ok (.goto 12, 3) := by decide +kernel
theorem dL_rename_12 : decode cL_rename 12 = .ok (.astore_n 3, 1) := by decide +kernel
theorem dL_rename_13 : decode cL_rename 13 = .ok (.iconst 1, 1) := by decide +kernel
theorem dL_rename_14 : decode cL_rename 14 = .ok (.ireturn, 1) := by decide +kernel
theorem dL_rename_15 : decode cL_rename 15 = .ok (.astore_n 3, 1) := by decide +kernel
theorem dL_rename_16 : decode cL_rename 16 = .ok (.iconst 2, 1) := by decide +kernel
theorem dL_rename_17 : decode cL_rename 17 = .ok (.ireturn, 1) := by decide +kernel
theorem dL_rename_18 : decode cL_rename 18 = .ok (.astore_n 3, 1) := by decide +kernel
theorem dL_rename_19 : decode cL_rename 19 = .ok (.iconst 3, 1) := by decide +kernel
theorem dL_rename_20 : decode cL_rename 20 = .ok (.ireturn, 1) := by decide +kernel
theorem dL_rename_21 : decode cL_rename 21 = .ok (.iconst 0, 1) := by decide +kernel
theorem dL_rename_22 : decode cL_rename 22 = .ok (.ireturn, 1) := by decide +kernel
set_option maxRecDepth 20000 in
theorem ggL_open_X6_open : GoodIn wsL_open wsX6_open := goodIn_ca (goodIn_r _ [6, 7, 8, 9, 10, 11, 5, 12, 13, 14, 15, 16, 17, 18, 19, 20, 21, 22, 23, 24, 25, 26, 27, 28, 29, 30, 31, 32, 33, 34, 35, 36, 37, 38, 39, 40, 41, 42, 43, 44, 45, 46, 47, 48, 49, 50, 51, 52, 53, 54, 55, 56, 57, 58, 59, 60, 61, 62, 63, 64, 65, 66, 67, 68, 69, 70, 71, 72, 73, 74, 75, 76, 77, 78, 79] (by decide +kernel) (by decide +kernel)) (goodIn_sub (fun _ h => List.mem_cons_of_mem _ (List.mem_append_right _ h)) (by decide +kernel))
set_option maxRecDepth 20000 in
theorem gL_open_X6_open : GoodIn wsL_open (wsV RL 26 RX6 yX6_open wsX6_open) := goodIn_app (goodIn_of _ (by decide +kernel)) ggL_open_X6_open
theorem dL_open_0 : decode cL_open 0 = .ok (.aload_n 2, 1) := by decide +kernel
theorem dL_open_1 : decode cL_open 1 = .ok (.iconst 0, 1) := by decide +kernel
theorem dL_open_2 : decode cL_open 2 = .ok (.aload_n 0, 1) := by decide +kernel
theorem dL_open_3 : decode cL_open 3 = .ok (.iload_n 1, 1) := by decide +kernel
theorem dL_open_4 : decode cL_open 4 = .ok (.invokevirtual 26, 3) := by decide +kernel
theorem dL_open_7 : decode cL_open 7 = .ok (.i2l, 1) := by decide +kernel
theorem dL_open_8 : decode cL_open 8 = .ok (.lastore, 1) := by decide +kernel
theorem dL_open_9 : decode cL_open 9 = .ok (.goto 6, 3) := by decide +kernel
theorem dL_open_12 : decode cL_open 12 = .ok (.astore_n 3, 1) := by decide +kernel
theorem dL_open_13 : decode cL_open 13 = .ok (.iconst 1, 1) := by decide +kernel
theorem dL_open_14 : decode cL_open 14 = .ok (.ireturn, 1) := by decide +kernel
theorem dL_open_15 : decode cL_open 15 = .ok (.iconst 0, 1) := by decide +kernel
theorem dL_open_16 : decode cL_open 16 = .ok (.ireturn, 1) := by decide +kernel
set_option maxRecDepth 20000 in
theorem ggL_close_X6_close : GoodIn wsL_close wsX6_close := goodIn_ca (goodIn_ca (goodIn_r _ [7, 8, 9, 10, 11, 12, 6, 13, 14, 15, 16, 17, 18, 19, 20, 21, 22, 23, 24, 25, 26, 27, 28, 29, 30, 31, 32, 33, 34, 35, 36, 37, 38, 39, 40, 41, 42, 43, 44, 45, 46, 47, 48, 49, 50, 51, 52, 53, 54, 55, 56, 57, 58, 59, 60, 61, 62, 63, 64, 65, 66, 67, 68, 69, 70, 71, 72, 73, 74, 75, 76, 77, 78, 79, 80, 81, 82] (by decide +kernel) (by decide +kernel)) (goodIn_sub (fun _ h => List.mem_cons_of_mem _ (List.mem_append_left _ (List.mem_append_right _ h))) (by decide +kernel))) (goodIn_sub (fun _ h => List.mem_cons_of_mem _ (List.mem_append_right _ h)) (by decide +kernel))
set_option maxRecDepth 20000 in
theorem gL_close_X6_close : GoodIn wsL_close (wsV RL 29 RX6 yX6_close wsX6_close) := goodIn_app (goodIn_of _ (by decide +kernel)) ggL_close_X6_close
theorem dL_close_0 : decode cL_close 0 = .ok (.aload_n 2, 1) := by decide +kernel
theorem dL_close_1 : decode cL_close 1 = .ok (.iconst 0, 1) := by decide +kernel
theorem dL_close_2 : decode cL_close 2 = .ok (.aload_n 0, 1) := by decide +kernel
theorem dL_close_3 : decode cL_close 3 = .ok (.iload_n 1, 1) := by decide +kernel
theorem dL_close_4 : decode cL_close 4 = .ok (.invokevirtual 29, 3) := by decide +kernel
theorem dL_close_7 : decode cL_close 7 = .ok (.i2l, 1) := by decide +kernel
theorem dL_close_8 : decode cL_close 8 = .ok (.lastore, 1) := by decide +kernel
theorem dL_close_9 : decode cL_close 9 = .ok (.goto 9, 3) := by decide +kernel
theorem dL_close_12 : decode cL_close 12 = .ok (.astore_n 3, 1) := by decide +kernel
theorem dL_close_13 : decode cL_close 13 = .ok (.iconst 1, 1) := by decide +kernel
theorem dL_close_14 : decode cL_close 14 = .ok (.ireturn, 1) := by decide +kernel
theorem dL_close_15 : decode cL_close 15 = .ok (.astore_n 3, 1) := by decide +kernel
theorem dL_close_16 : decode cL_close 16 = .ok (.iconst 2, 1) := by decide +kernel
theorem dL_close_17 : decode cL_close 17 = .ok (.ireturn, 1) := by decide +kernel
theorem dL_close_18 : decode cL_close 18 = .ok (.iconst 0, 1) := by decide +kernel
theorem dL_close_19 : decode cL_close 19 = .ok (.ireturn, 1) := by decide +kernel
set_option maxRecDepth 20000 in
theorem ggL_next_X6_next : GoodIn wsL_next wsX6_next := goodIn_ca (goodIn_ca (goodIn_r _ [7, 8, 9, 10, 11, 12, 13, 14, 15, 6, 16, 17, 18, 19, 20, 21, 22, 23, 24, 25, 26, 27, 28, 29, 30, 31, 32, 33, 34, 35, 36, 37, 38, 39, 40, 41, 42, 43, 44, 45, 46, 47, 48, 49, 50, 51, 52, 53, 54, 55, 56, 57, 58, 59, 60, 61, 62, 63, 64, 65, 66, 67, 68, 69, 70, 71, 72, 73, 74, 75, 76, 77, 78, 79, 80, 81, 82, 83, 84, 85, 86, 87, 88, 89, 90, 91, 92, 93, 94, 95, 96, 97] (by decide +kernel) (by decide +kernel)) (goodIn_sub (fun _ h => List.mem_cons_of_mem _ (List.mem_append_left _ (List.mem_append_right _ h))) (by decide +kernel))) (goodIn_sub (fun _ h => List.mem_cons_of_mem _ (List.mem_append_right _ h)) (by decide +kernel))
set_option maxRecDepth 20000 in
theorem gL_next_X6_next : GoodIn wsL_next (wsV RL 32 RX6 yX6_next wsX6_next) := goodIn_app (goodIn_of _ (by decide +kernel)) ggL_next_X6_next
theorem dL_next_0 : decode cL_next 0 = .ok (.aload_n 2, 1) := by decide +kernel
theorem dL_next_1 : decode cL_next 1 = .ok (.iconst 0, 1) := by decide +kernel
theorem dL_next_2 : decode cL_next 2 = .ok (.aload_n 0, 1) := by decide +kernel
theorem dL_next_3 : decode cL_next 3 = .ok (.iload_n 1, 1) := by decide +kernel
theorem dL_next_4 : decode cL_next 4 = .ok (.invokevirtual 32, 3) := by decide +kernel
theorem dL_next_7 : decode cL_next 7 = .ok (.i2l, 1) := by decide +kernel
theorem dL_next_8 : decode cL_next 8 = .ok (.lastore, 1) := by decide +kernel
theorem dL_next_9 : decode cL_next 9 = .ok (.goto 9, 3) := by decide +kernel
theorem dL_next_12 : decode cL_next 12 = .ok (.astore_n 3, 1) := by decide +kernel
theorem dL_next_13 : decode cL_next 13 = .ok (.iconst 1, 1) := by decide +kernel
theorem dL_next_14 : decode cL_next 14 = .ok (.ireturn, 1) := by decide +kernel
theorem dL_next_15 : decode cL_next 15 = .ok (.astore_n 3, 1) := by decide +kernel
theorem dL_next_16 : decode cL_next 16 = .ok (.iconst 2, 1) := by decide +kernel
theorem dL_next_17 : decode cL_next 17 = .ok (.ireturn, 1) := by decide +kernel
theorem dL_next_18 : decode cL_next 18 = .ok (.iconst 0, 1) := by decide +kernel
theorem dL_next_19 : decode cL_next 19 = .ok (.ireturn, 1) := by decide +kernel
set_option maxRecDepth 20000 in
theorem ggL_readLeaf_X6_readLeaf : GoodIn wsL_readLeaf wsX6_readLeaf := goodIn_ca (goodIn_ca (goodIn_r _ [7, 8, 9, 10, 11, 12, 13, 14, 6, 15, 16, 17, 18, 19, 20, 21, 22, 23, 24, 25, 26, 27, 28, 29, 30, 31, 32, 33, 34, 35, 36, 37, 38, 39, 40, 41, 42, 43, 44, 45, 46, 47, 48, 49, 50, 51, 52, 53, 54, 55, 56, 57, 58, 59, 60, 61, 62, 63, 64, 65, 66, 67, 68, 69, 70, 71, 72, 73, 74, 75, 76, 77, 78, 79, 80, 81, 82, 83, 84, 85, 86, 87, 88, 89, 90, 91, 92, 93, 94, 95, 96, 97, 98, 99, 100, 101, 102, 103, 104, 105] (by decide +kernel) (by decide +kernel)) (goodIn_sub (fun _ h => List.mem_cons_of_mem _ (List.mem_append_left _ (List.mem_append_right _ h))) (by decide +kernel))) (goodIn_sub (fun _ h => List.mem_cons_of_mem _ (List.mem_append_right _ h)) (by decide +kernel))
set_option maxRecDepth 20000 in
theorem gL_readLeaf_X6_readLeaf : GoodIn wsL_readLeaf (wsV RL 35 RX6 yX6_readLeaf wsX6_readLeaf) := goodIn_app (goodIn_of _ (by decide +kernel)) ggL_readLeaf_X6_readLeaf
theorem dL_readLeaf_0 : decode cL_readLeaf 0 = .ok (.aload_n 2, 1) := by decide +kernel
theorem dL_readLeaf_1 : decode cL_readLeaf 1 = .ok (.iconst 0, 1) := by decide +kernel
theorem dL_readLeaf_2 : decode cL_readLeaf 2 = .ok (.aload_n 0, 1) := by decide +kernel
theorem dL_readLeaf_3 : decode cL_readLeaf 3 = .ok (.iload_n 1, 1) := by decide +kernel
theorem dL_readLeaf_4 : decode cL_readLeaf 4 = .ok (.invokevirtual 35, 3) := by decide +kernel
theorem dL_readLeaf_7 : decode cL_readLeaf 7 = .ok (.i2l, 1) := by decide +kernel
theorem dL_readLeaf_8 : decode cL_readLeaf 8 = .ok (.lastore, 1) := by decide +kernel
theorem dL_readLeaf_9 : decode cL_readLeaf 9 = .ok (.goto 9, 3) := by decide +kernel
theorem dL_readLeaf_12 : decode cL_readLeaf 12 = .ok (.astore_n 3, 1) := by decide +kernel
theorem dL_readLeaf_13 : decode cL_readLeaf 13 = .ok (.iconst 1, 1) := by decide +kernel
theorem dL_readLeaf_14 : decode cL_readLeaf 14 = .ok (.ireturn, 1) := by decide +kernel
theorem dL_readLeaf_15 : decode cL_readLeaf 15 = .ok (.astore_n 3, 1) := by decide +kernel
theorem dL_readLeaf_16 : decode cL_readLeaf 16 = .ok (.iconst 2, 1) := by decide +kernel
theorem dL_readLeaf_17 : decode cL_readLeaf 17 = .ok (.ireturn, 1) := by decide +kernel
theorem dL_readLeaf_18 : decode cL_readLeaf 18 = .ok (.iconst 0, 1) := by decide +kernel
theorem dL_readLeaf_19 : decode cL_readLeaf 19 = .ok (.ireturn, 1) := by decide +kernel
set_option maxRecDepth 20000 in
theorem ggL_seek_X6_seek : GoodIn wsL_seek wsX6_seek := goodIn_ca (goodIn_ca (goodIn_ca (goodIn_r _ [8, 9, 10, 11, 12, 13, 14, 15, 16, 7, 17, 18, 19, 20, 21, 22, 23, 24, 25, 26, 27, 28, 29, 30, 31, 32, 33, 34, 35, 36, 37, 38, 39, 40, 41, 42, 43, 44, 45, 46, 47, 48, 49, 50, 51, 52, 53, 54, 55, 56, 57, 58, 59, 60, 61, 62, 63, 64, 65, 66, 67, 68, 69, 70, 71, 72, 73, 74, 75, 76, 77, 78, 79, 80, 81, 82, 83, 84, 85, 86] (by decide +kernel) (by decide +kernel)) (goodIn_sub (fun _ h => List.mem_cons_of_mem _ (List.mem_append_left _ (List.mem_append_left _ (List.mem_append_right _ h)))) (by decide +kernel))) (goodIn_sub (fun _ h => List.mem_cons_of_mem _ (List.mem_append_left _ (List.mem_append_right _ h))) (by decide +kernel))) (goodIn_sub (fun _ h => List.mem_cons_of_mem _ (List.mem_append_right _ h)) (by decide +kernel))
set_option maxRecDepth 20000 in
theorem gL_seek_X6_seek : GoodIn wsL_seek (wsV RL 38 RX6 yX6_seek wsX6_seek) := goodIn_app (goodIn_of _ (by decide +kernel)) ggL_seek_X6_seek
theorem dL_seek_0 : decode cL_seek 0 = .ok (.aload_n 3, 1) := by decide +kernel
theorem dL_seek_1 : decode cL_seek 1 = .ok (.iconst 0, 1) := by decide +kernel
theorem dL_seek_2 : decode cL_seek 2 = .ok (.aload_n 0, 1) := by decide +kernel
theorem dL_seek_3 : decode cL_seek 3 = .ok (.iload_n 1, 1) := by decide +kernel
theorem dL_seek_4 : decode cL_seek 4 = .ok (.iload_n 2, 1) := by decide +kernel
theorem dL_seek_5 : decode cL_seek 5 = .ok (.invokevirtual 38, 3) := by decide +kernel
theorem dL_seek_8 : decode cL_seek 8 = .ok (.i2l, 1) := by decide +kernel
theorem dL_seek_9 : decode cL_seek 9 = .ok (.lastore, 1) := by decide +kernel
theorem dL_seek_10 : decode cL_seek 10 = .ok (.goto 15, 3) := by decide +kernel
theorem dL_seek_13 : decode cL_seek 13 = .ok (.astore 4, 2) := by decide +kernel
theorem dL_seek_15 : decode cL_seek 15 = .ok (.iconst 1, 1) := by decide +kernel
theorem dL_seek_16 : decode cL_seek 16 = .ok (.ireturn, 1) := by decide +kernel
theorem dL_seek_17 : decode cL_seek 17 = .ok (.astore 4, 2) := by decide +kernel
theorem dL_seek_19 : decode cL_seek 19 = .ok (.iconst 2, 1) := by decide +kernel
theorem dL_seek_20 : decode cL_seek 20 = .ok (.ireturn, 1) := by decide +kernel
theorem dL_seek_21 : decode cL_seek 21 = .ok (.astore 4, 2) := by decide +kernel
theorem dL_seek_23 : decode cL_seek 23 = .ok (.iconst 3, 1) := by decide +kernel
theorem dL_seek_24 : decode cL_seek 24 = .ok (.ireturn, 1) := by decide +kernel
theorem dL_seek_25 : decode cL_seek 25 = .ok (.iconst 0, 1) := by decide +kernel
theorem dL_seek_26 : decode cL_seek 26 = .ok (.ireturn, 1) := by decide +kernel
set_option maxRecDepth 20000 in
theorem ggL_appendText_X6_appendText : GoodIn wsL_appendText wsX6_appendText := goodIn_ca (goodIn_ca (goodIn_r _ [7, 8, 9, 10, 11, 12, 13, 14, 15, 16, 17, 18, 19, 20, 21, 22, 23, 24, 25, 26, 27] (by decide +kernel) (by decide +kernel)) (goodIn_sub (fun _ h => List.mem_cons_of_mem _ (List.mem_append_left _ (List.mem_append_right _ h))) (by decide +kernel))) (goodIn_sub (fun _ h => List.mem_cons_of_mem _ (List.mem_append_right _ h)) (by decide +kernel))
set_option maxRecDepth 20000 in
theorem gL_appendText_X6_appendText : GoodIn wsL_appendText (wsV RL 42 RX6 yX6_appendText wsX6_appendText) := goodIn_app (goodIn_of _ (by decide +kernel)) ggL_appendText_X6_appendText
theorem dL_appendText_0 : decode cL_appendText 0 = .ok (.aload_n 2, 1) := by decide +kernel
theorem dL_appendText_1 : decode cL_appendText 1 = .ok (.iconst 0, 1) := by decide +kernel
theorem dL_appendText_2 : decode cL_appendText 2 = .ok (.aload_n 0, 1) := by decide +kernel
theorem dL_appendText_3 : decode cL_appendText 3 = .ok (.iload_n 1, 1) := by decide +kernel
theorem dL_appendText_4 : decode cL_appendText 4 = .ok (.invokevirtual 42, 3) := by decide +kernel
theorem dL_appendText_7 : decode cL_appendText 7 = .ok (.i2l, 1) := by decide +kernel
theorem dL_appendText_8 : decode cL_appendText 8 = .ok (.lastore, 1) := by decide +kernel
theorem dL_appendText_9 : decode cL_appendText 9 = .ok (.goto 9, 3) := by decide +kernel
theorem dL_appendText_12 : decode cL_appendText 12 = .ok (.astore_n 3, 1) := by decide +kernel
theorem dL_appendText_13 : decode cL_appendText 13 = .ok (.iconst 1, 1) := by decide +kernel
theorem dL_appendText_14 : decode cL_appendText 14 = .ok (.ireturn, 1) := by decide +kernel
theorem dL_appendText_15 : decode cL_appendText 15 = .ok (.astore_n 3, 1) := by decide +kernel
theorem dL_appendText_16 : decode cL_appendText 16 = .ok (.iconst 2, 1) := by decide +kernel
theorem dL_appendText_17 : decode cL_appendText 17 = .ok (.ireturn, 1) := by decide +kernel
theorem dL_appendText_18 : decode cL_appendText 18 = .ok (.iconst 0, 1) := by decide +kernel
theorem dL_appendText_19 : decode cL_appendText 19 = .ok (.ireturn, 1) := by decide +kernel
set_option maxRecDepth 20000 in
theorem ggL_runText_X6_runText : GoodIn wsL_runText wsX6_runText := goodIn_ca (goodIn_r _ [6, 7, 8, 9, 10, 11, 12, 13, 14, 15, 16, 17, 18, 19, 20, 21, 22, 23, 24, 25, 26, 27, 28, 29, 30, 31, 32, 33, 34, 35, 36, 37, 38, 39, 40, 41, 42, 43, 44, 45, 46, 47, 48, 49, 50, 51, 52, 53, 54, 55, 56, 57, 58, 59, 60, 61, 62, 63, 64, 65, 66, 67, 68, 69, 70, 71, 72, 73, 74, 75, 5, 76, 77, 78, 79, 80, 81, 82, 83, 84, 85, 86, 87, 88, 89, 90, 91, 92, 93, 94, 95, 96, 97, 98, 99, 100, 101, 102, 103, 104, 105, 106, 107, 108, 109, 110, 111, 112, 113, 114, 115, 116, 117, 118, 119, 120, 121, 122, 123, 124, 125, 126, 127, 128, 129, 130, 131, 132, 133, 134, 135, 136, 137, 138, 139, 140, 141, 142, 143, 144, 145, 146, 147, 148, 149, 150, 151, 152, 153, 154, 155, 156, 157, 158, 159, 160, 161, 162, 163, 164, 165, 166, 167, 168, 169, 170, 171, 172, 173, 174, 175, 176, 177, 178, 179, 180, 181, 182, 183, 184, 185, 186, 187, 188, 189, 190, 191, 192, 193, 194, 195, 196, 197, 198, 199, 200, 201, 202] (by decide +kernel) (by decide +kernel)) (goodIn_sub (fun _ h => List.mem_cons_of_mem _ (List.mem_append_right _ h)) (by decide +kernel))
set_option maxRecDepth 20000 in
theorem gL_runText_X6_runText : GoodIn wsL_runText (wsV RL 45 RX6 yX6_runText wsX6_runText) := goodIn_app (goodIn_of _ (by decide +kernel)) ggL_runText_X6_runText
theorem dL_runText_0 : decode cL_runText 0 = .ok (.aload_n 1, 1) := by decide +kernel
theorem dL_runText_1 : decode cL_runText 1 = .ok (.iconst 0, 1) := by decide +kernel
theorem dL_runText_2 : decode cL_runText 2 = .ok (.aload_n 0, 1) := by decide +kernel
theorem dL_runText_3 : decode cL_runText 3 = .ok (.invokevirtual 45, 3) := by decide +kernel
theorem dL_runText_6 : decode cL_runText 6 = .ok (.i2l, 1) := by decide +kernel
theorem dL_runText_7 : decode cL_runText 7 = .ok (.lastore, 1) := by decide +kernel
theorem dL_runText_8 : decode cL_runText 8 = .ok (.goto 6, 3) := by decide +kernel
theorem dL_runText_11 : decode cL_runText 11 = .ok (.astore_n 2, 1) := by decide +kernel
theorem dL_runText_12 : decode cL_runText 12 = .ok (.iconst 1, 1) := by decide +kernel
theorem dL_runText_13 : decode cL_runText 13 = .ok (.ireturn, 1) := by decide +kernel
theorem dL_runText_14 : decode cL_runText 14 = .ok (.iconst 0, 1) := by decide +kernel
theorem dL_runText_15 : decode cL_runText 15 = .ok (.ireturn, 1) := by decide +kernel
set_option maxRecDepth 20000 in
theorem ggL_undo_X6_undo : GoodIn wsL_undo wsX6_undo := goodIn_ca (goodIn_r _ [6, 7, 8, 9, 10, 11, 12, 13, 14, 15, 16, 17, 18, 19, 20, 21, 22, 23, 24, 25, 26, 27, 28, 29, 30, 31, 32, 33, 34, 35, 36, 37, 38, 39, 40, 41, 42, 43, 44, 45, 46, 47, 48, 49, 50, 51, 52, 53, 54, 55, 56, 57, 58, 59, 60, 61, 62, 63, 64, 65, 66, 67, 68] (by decide +kernel) (by decide +kernel)) (goodIn_sub (fun _ h => List.mem_cons_of_mem _ (List.mem_append_right _ h)) (by decide +kernel))
set_option maxRecDepth 20000 in
theorem gL_undo_X6_undo : GoodIn wsL_undo (wsV RL 48 RX6 yX6_undo wsX6_undo) := goodIn_app (goodIn_of _ (by decide +kernel)) ggL_undo_X6_undo
theorem dL_undo_0 : decode cL_undo 0 = .ok (.aload_n 1, 1) := by decide +kernel
theorem dL_undo_1 : decode cL_undo 1 = .ok (.iconst 0, 1) := by decide +kernel
theorem dL_undo_2 : decode cL_undo 2 = .ok (.aload_n 0, 1) := by decide +kernel
theorem dL_undo_3 : decode cL_undo 3 = .ok (.invokevirtual 48, 3) := by decide +kernel
theorem dL_undo_6 : decode cL_undo 6 = .ok (.i2l, 1) := by decide +kernel
theorem dL_undo_7 : decode cL_undo 7 = .ok (.lastore, 1) := by decide +kernel
theorem dL_undo_8 : decode cL_undo 8 = .ok (.goto 6, 3) := by decide +kernel
theorem dL_undo_11 : decode cL_undo 11 = .ok (.astore_n 2, 1) := by decide +kernel
theorem dL_undo_12 : decode cL_undo 12 = .ok (.iconst 1, 1) := by decide +kernel
theorem dL_undo_13 : decode cL_undo 13 = .ok (.ireturn, 1) := by decide +kernel
theorem dL_undo_14 : decode cL_undo 14 = .ok (.iconst 0, 1) := by decide +kernel
theorem dL_undo_15 : decode cL_undo 15 = .ok (.ireturn, 1) := by decide +kernel
set_option maxRecDepth 20000 in
theorem ggL_save_X6_save : GoodIn wsL_save wsX6_save := goodIn_ca (goodIn_r _ [6, 7, 8, 9, 10, 11, 12, 13, 5, 14, 15, 16, 17, 18, 19, 20, 21, 22, 23, 24, 25, 26, 27, 28, 29, 30, 31, 32, 33, 34, 35, 36, 37, 38, 39, 40, 41, 42, 43, 44, 45, 46, 47, 48, 49, 50, 51, 52, 53, 54, 55, 56, 57, 58, 59, 60, 61, 62] (by decide +kernel) (by decide +kernel)) (goodIn_sub (fun _ h => List.mem_cons_of_mem _ (List.mem_append_right _ h)) (by decide +kernel))
set_option maxRecDepth 20000 in
theorem gL_save_X6_save : GoodIn wsL_save (wsV RL 51 RX6 yX6_save wsX6_save) := goodIn_app (goodIn_of _ (by decide +kernel)) ggL_save_X6_save
theorem dL_save_0 : decode cL_save 0 = .ok (.aload_n 2, 1) := by decide +kernel
theorem dL_save_1 : decode cL_save 1 = .ok (.iconst 0, 1) := by decide +kernel
theorem dL_save_2 : decode cL_save 2 = .ok (.aload_n 0, 1) := by decide +kernel
theorem dL_save_3 : decode cL_save 3 = .ok (.iload_n 1, 1) := by decide +kernel
theorem dL_save_4 : decode cL_save 4 = .ok (.invokevirtual 51, 3) := by decide +kernel
theorem dL_save_7 : decode cL_save 7 = .ok (.i2l, 1) := by decide +kernel
theorem dL_save_8 : decode cL_save 8 = .ok (.lastore, 1) := by decide +kernel
theorem dL_save_9 : decode cL_save 9 = .ok (.goto 6, 3) := by decide +kernel
theorem dL_save_12 : decode cL_save 12 = .ok (.astore_n 3, 1) := by decide +kernel
theorem dL_save_13 : decode cL_save 13 = .ok (.iconst 1, 1) := by decide +kernel
theorem dL_save_14 : decode cL_save 14 = .ok (.ireturn, 1) := by decide +kernel
theorem dL_save_15 : decode cL_save 15 = .ok (.iconst 0, 1) := by decide +kernel
theorem dL_save_16 : decode cL_save 16 = .ok (.ireturn, 1) := by decide +kernel
set_option maxRecDepth 20000 in
theorem ggL_restore_X6_restore : GoodIn wsL_restore wsX6_restore := goodIn_ca (goodIn_ca (goodIn_r _ [7, 8, 9, 10, 11, 12, 13, 14, 15, 16, 17, 6, 18, 19, 20, 21, 22, 23, 24, 25, 26, 27, 28, 29, 30, 31, 32, 33, 34, 35, 36, 37, 38, 39, 40, 41, 42, 43, 44, 45, 46, 47, 48, 49, 50, 51, 52, 53, 54, 55, 56, 57, 58, 59, 60, 61, 62, 63, 64, 65, 66, 67, 68, 69, 70, 71, 72, 73, 74, 75, 76, 77, 78] (by decide +kernel) (by decide +kernel)) (goodIn_sub (fun _ h => List.mem_cons_of_mem _ (List.mem_append_left _ (List.mem_append_right _ h))) (by decide +kernel))) (goodIn_sub (fun _ h => List.mem_cons_of_mem _ (List.mem_append_right _ h)) (by decide +kernel))
set_option maxRecDepth 20000 in
theorem gL_restore_X6_restore : GoodIn wsL_restore (wsV RL 54 RX6 yX6_restore wsX6_restore) := goodIn_app (goodIn_of _ (by decide +kernel)) ggL_restore_X6_restore
theorem dL_restore_0 : decode cL_restore 0 = .ok (.aload_n 2, 1) := by decide +kernel
theorem dL_restore_1 : decode cL_restore 1 = .ok (.iconst 0, 1) := by decide +kernel
theorem dL_restore_2 : decode cL_restore 2 = .ok (.aload_n 0, 1) := by decide +kernel
theorem dL_restore_3 : decode cL_restore 3 = .ok (.iload_n 1, 1) := by decide +kernel
theorem dL_restore_4 : decode cL_restore 4 = .ok (.invokevirtual 54, 3) := by decide +kernel
theorem dL_restore_7 : decode cL_restore 7 = .ok (.i2l, 1) := by decide +kernel
theorem dL_restore_8 : decode cL_restore 8 = .ok (.lastore, 1) := by decide +kernel
theorem dL_restore_9 : decode cL_restore 9 = .ok (.goto 9, 3) := by decide +kernel
theorem dL_restore_12 : decode cL_restore 12 = .ok (.astore_n 3, 1) := by decide +kernel
theorem dL_restore_13 : decode cL_restore 13 = .ok (.iconst 1, 1) := by decide +kernel
theorem dL_restore_14 : decode cL_restore 14 = .ok (.ireturn, 1) := by decide +kernel
theorem dL_restore_15 : decode cL_restore 15 = .ok (.astore_n 3, 1) := by decide +kernel
theorem dL_restore_16 : decode cL_restore 16 = .ok (.iconst 2, 1) := by decide +kernel
theorem dL_restore_17 : decode cL_restore 17 = .ok (.ireturn, 1) := by decide +kernel
theorem dL_restore_18 : decode cL_restore 18 = .ok (.iconst 0, 1) := by decide +kernel
theorem dL_restore_19 : decode cL_restore 19 = .ok (.ireturn, 1) := by decide +kernel
set_option maxRecDepth 20000 in
theorem ggL_idAt_X6_idAt : GoodIn wsL_idAt wsX6_idAt := goodIn_ca (goodIn_r _ [6, 7, 8, 9, 10, 11, 12, 13, 14, 15, 16, 17, 18, 19, 20, 21, 22, 23, 24, 25, 26, 27, 28, 29] (by decide +kernel) (by decide +kernel)) (goodIn_sub (fun _ h => List.mem_cons_of_mem _ (List.mem_append_right _ h)) (by decide +kernel))
set_option maxRecDepth 20000 in
theorem gL_idAt_X6_idAt : GoodIn wsL_idAt (wsV RL 57 RX6 yX6_idAt wsX6_idAt) := goodIn_app (goodIn_of _ (by decide +kernel)) ggL_idAt_X6_idAt
theorem dL_idAt_0 : decode cL_idAt 0 = .ok (.aload_n 2, 1) := by decide +kernel
theorem dL_idAt_1 : decode cL_idAt 1 = .ok (.iconst 0, 1) := by decide +kernel
theorem dL_idAt_2 : decode cL_idAt 2 = .ok (.aload_n 0, 1) := by decide +kernel
theorem dL_idAt_3 : decode cL_idAt 3 = .ok (.iload_n 1, 1) := by decide +kernel
theorem dL_idAt_4 : decode cL_idAt 4 = .ok (.invokevirtual 57, 3) := by decide +kernel
theorem dL_idAt_7 : decode cL_idAt 7 = .ok (.i2l, 1) := by decide +kernel
theorem dL_idAt_8 : decode cL_idAt 8 = .ok (.lastore, 1) := by decide +kernel
theorem dL_idAt_9 : decode cL_idAt 9 = .ok (.goto 6, 3) := by decide +kernel
theorem dL_idAt_12 : decode cL_idAt 12 = .ok (.astore_n 3, 1) := by decide +kernel
theorem dL_idAt_13 : decode cL_idAt 13 = .ok (.iconst 1, 1) := by decide +kernel
theorem dL_idAt_14 : decode cL_idAt 14 = .ok (.ireturn, 1) := by decide +kernel
theorem dL_idAt_15 : decode cL_idAt 15 = .ok (.iconst 0, 1) := by decide +kernel
theorem dL_idAt_16 : decode cL_idAt 16 = .ok (.ireturn, 1) := by decide +kernel
set_option maxRecDepth 20000 in
theorem ggL_find_X6_find : GoodIn wsL_find wsX6_find := goodIn_ca (goodIn_r _ [6, 7, 8, 9, 10, 11, 5, 12, 13, 14, 15, 16, 17, 18, 19, 20, 21, 22, 23, 24, 25, 26, 27, 28, 29, 30, 31, 32, 33, 34, 35, 36, 37, 38, 39, 40, 41, 42, 43, 44, 45, 46, 47, 48, 49, 50, 51, 52, 53, 54, 55, 56, 57, 58] (by decide +kernel) (by decide +kernel)) (goodIn_sub (fun _ h => List.mem_cons_of_mem _ (List.mem_append_right _ h)) (by decide +kernel))
set_option maxRecDepth 20000 in
theorem gL_find_X6_find : GoodIn wsL_find (wsV RL 60 RX6 yX6_find wsX6_find) := goodIn_app (goodIn_of _ (by decide +kernel)) ggL_find_X6_find
theorem dL_find_0 : decode cL_find 0 = .ok (.aload_n 1, 1) := by decide +kernel
theorem dL_find_1 : decode cL_find 1 = .ok (.iconst 0, 1) := by decide +kernel
theorem dL_find_2 : decode cL_find 2 = .ok (.aload_n 0, 1) := by decide +kernel
theorem dL_find_3 : decode cL_find 3 = .ok (.invokevirtual 60, 3) := by decide +kernel
theorem dL_find_6 : decode cL_find 6 = .ok (.i2l, 1) := by decide +kernel
theorem dL_find_7 : decode cL_find 7 = .ok (.lastore, 1) := by decide +kernel
theorem dL_find_8 : decode cL_find 8 = .ok (.goto 6, 3) := by decide +kernel
theorem dL_find_11 : decode cL_find 11 = .ok (.astore_n 2, 1) := by decide +kernel
theorem dL_find_12 : decode cL_find 12 = .ok (.iconst 1, 1) := by decide +kernel
theorem dL_find_13 : decode cL_find 13 = .ok (.ireturn, 1) := by decide +kernel
theorem dL_find_14 : decode cL_find 14 = .ok (.iconst 0, 1) := by decide +kernel
theorem dL_find_15 : decode cL_find 15 = .ok (.ireturn, 1) := by decide +kernel
set_option maxRecDepth 20000 in
theorem ggL_hashOfText_X6_hashOfText : GoodIn wsL_hashOfText wsX6_hashOfText := goodIn_ca (goodIn_r _ [6, 7, 8, 9, 5, 10, 11, 12, 13, 14, 15, 16, 17, 18, 19, 20, 21, 22, 23, 24, 25, 26, 27, 28, 29, 30, 31, 32, 33, 34, 35, 36, 37, 38, 39, 40, 41, 42, 43] (by decide +kernel) (by decide +kernel)) (goodIn_sub (fun _ h => List.mem_cons_of_mem _ (List.mem_append_right _ h)) (by decide +kernel))
set_option maxRecDepth 20000 in
theorem gL_hashOfText_X6_hashOfText : GoodIn wsL_hashOfText (wsV RL 63 RX6 yX6_hashOfText wsX6_hashOfText) := goodIn_app (goodIn_of _ (by decide +kernel)) ggL_hashOfText_X6_hashOfText
theorem dL_hashOfText_0 : decode cL_hashOfText 0 = .ok (.aload_n 1, 1) := by decide +kernel
theorem dL_hashOfText_1 : decode cL_hashOfText 1 = .ok (.iconst 0, 1) := by decide +kernel
theorem dL_hashOfText_2 : decode cL_hashOfText 2 = .ok (.aload_n 0, 1) := by decide +kernel
theorem dL_hashOfText_3 : decode cL_hashOfText 3 = .ok (.invokevirtual 63, 3) := by decide +kernel
theorem dL_hashOfText_6 : decode cL_hashOfText 6 = .ok (.i2l, 1) := by decide +kernel
theorem dL_hashOfText_7 : decode cL_hashOfText 7 = .ok (.lastore, 1) := by decide +kernel
theorem dL_hashOfText_8 : decode cL_hashOfText 8 = .ok (.goto 6, 3) := by decide +kernel
theorem dL_hashOfText_11 : decode cL_hashOfText 11 = .ok (.astore_n 2, 1) := by decide +kernel
theorem dL_hashOfText_12 : decode cL_hashOfText 12 = .ok (.iconst 1, 1) := by decide +kernel
theorem dL_hashOfText_13 : decode cL_hashOfText 13 = .ok (.ireturn, 1) := by decide +kernel
theorem dL_hashOfText_14 : decode cL_hashOfText 14 = .ok (.iconst 0, 1) := by decide +kernel
theorem dL_hashOfText_15 : decode cL_hashOfText 15 = .ok (.ireturn, 1) := by decide +kernel
set_option maxRecDepth 20000 in
theorem ggL_hashOf_X6_hashOf : GoodIn wsL_hashOf wsX6_hashOf := goodIn_ca (goodIn_r _ [6, 7, 8, 9, 10, 11, 5, 12, 13, 14, 15, 16, 17, 18, 19, 20, 21, 22, 23, 24, 25, 26, 27, 28, 29, 30, 31, 32, 33, 34, 35, 36, 37, 38, 39, 40, 41] (by decide +kernel) (by decide +kernel)) (goodIn_sub (fun _ h => List.mem_cons_of_mem _ (List.mem_append_right _ h)) (by decide +kernel))
set_option maxRecDepth 20000 in
theorem gL_hashOf_X6_hashOf : GoodIn wsL_hashOf (wsV RL 66 RX6 yX6_hashOf wsX6_hashOf) := goodIn_app (goodIn_of _ (by decide +kernel)) ggL_hashOf_X6_hashOf
theorem dL_hashOf_0 : decode cL_hashOf 0 = .ok (.aload_n 2, 1) := by decide +kernel
theorem dL_hashOf_1 : decode cL_hashOf 1 = .ok (.iconst 0, 1) := by decide +kernel
theorem dL_hashOf_2 : decode cL_hashOf 2 = .ok (.aload_n 0, 1) := by decide +kernel
theorem dL_hashOf_3 : decode cL_hashOf 3 = .ok (.iload_n 1, 1) := by decide +kernel
theorem dL_hashOf_4 : decode cL_hashOf 4 = .ok (.invokevirtual 66, 3) := by decide +kernel
theorem dL_hashOf_7 : decode cL_hashOf 7 = .ok (.i2l, 1) := by decide +kernel
theorem dL_hashOf_8 : decode cL_hashOf 8 = .ok (.lastore, 1) := by decide +kernel
theorem dL_hashOf_9 : decode cL_hashOf 9 = .ok (.goto 6, 3) := by decide +kernel
theorem dL_hashOf_12 : decode cL_hashOf 12 = .ok (.astore_n 3, 1) := by decide +kernel
theorem dL_hashOf_13 : decode cL_hashOf 13 = .ok (.iconst 1, 1) := by decide +kernel
theorem dL_hashOf_14 : decode cL_hashOf 14 = .ok (.ireturn, 1) := by decide +kernel
theorem dL_hashOf_15 : decode cL_hashOf 15 = .ok (.iconst 0, 1) := by decide +kernel
theorem dL_hashOf_16 : decode cL_hashOf 16 = .ok (.ireturn, 1) := by decide +kernel
set_option maxRecDepth 20000 in
theorem ggL_letterOf_X6_letterOf : GoodIn wsL_letterOf wsX6_letterOf := goodIn_ca (goodIn_r _ [6, 7, 8, 9, 10, 11, 12, 13, 14, 5, 15, 16, 17, 18, 19, 20, 21, 22, 23, 24, 25, 26, 27, 28, 29, 30, 31, 32, 33, 34, 35, 36, 37, 38, 39, 40, 41, 42, 43, 44, 45] (by decide +kernel) (by decide +kernel)) (goodIn_sub (fun _ h => List.mem_cons_of_mem _ (List.mem_append_right _ h)) (by decide +kernel))
set_option maxRecDepth 20000 in
theorem gL_letterOf_X6_letterOf : GoodIn wsL_letterOf (wsV RL 69 RX6 yX6_letterOf wsX6_letterOf) := goodIn_app (goodIn_of _ (by decide +kernel)) ggL_letterOf_X6_letterOf
theorem dL_letterOf_0 : decode cL_letterOf 0 = .ok (.aload_n 3, 1) := by decide +kernel
theorem dL_letterOf_1 : decode cL_letterOf 1 = .ok (.iconst 0, 1) := by decide +kernel
theorem dL_letterOf_2 : decode cL_letterOf 2 = .ok (.aload_n 0, 1) := by decide +kernel
theorem dL_letterOf_3 : decode cL_letterOf 3 = .ok (.iload_n 1, 1) := by decide +kernel
theorem dL_letterOf_4 : decode cL_letterOf 4 = .ok (.iload_n 2, 1) := by decide +kernel
theorem dL_letterOf_5 : decode cL_letterOf 5 = .ok (.invokevirtual 69, 3) := by decide +kernel
theorem dL_letterOf_8 : decode cL_letterOf 8 = .ok (.i2l, 1) := by decide +kernel
theorem dL_letterOf_9 : decode cL_letterOf 9 = .ok (.lastore, 1) := by decide +kernel
theorem dL_letterOf_10 : decode cL_letterOf 10 = .ok (.goto 7, 3) := by decide +kernel
theorem dL_letterOf_13 : decode cL_letterOf 13 = .ok (.astore 4, 2) := by decide +kernel
theorem dL_letterOf_15 : decode cL_letterOf 15 = .ok (.iconst 1, 1) := by decide +kernel
theorem dL_letterOf_16 : decode cL_letterOf 16 = .ok (.ireturn, 1) := by decide +kernel
theorem dL_letterOf_17 : decode cL_letterOf 17 = .ok (.iconst 0, 1) := by decide +kernel
theorem dL_letterOf_18 : decode cL_letterOf 18 = .ok (.ireturn, 1) := by decide +kernel
set_option maxRecDepth 20000 in
theorem ggL_withHash_X6_withHash : GoodIn wsL_withHash wsX6_withHash := goodIn_ca (goodIn_r _ [6, 7, 8, 9, 10, 5, 11, 12, 13, 14, 15, 16, 17, 18, 19, 20, 21, 22, 23, 24, 25, 26, 27, 28, 29, 30, 31, 32, 33, 34, 35, 36, 37, 38, 39, 40, 41, 42, 43] (by decide +kernel) (by decide +kernel)) (goodIn_sub (fun _ h => List.mem_cons_of_mem _ (List.mem_append_right _ h)) (by decide +kernel))
set_option maxRecDepth 20000 in
theorem gL_withHash_X6_withHash : GoodIn wsL_withHash (wsV RL 72 RX6 yX6_withHash wsX6_withHash) := goodIn_app (goodIn_of _ (by decide +kernel)) ggL_withHash_X6_withHash
theorem dL_withHash_0 : decode cL_withHash 0 = .ok (.aload_n 2, 1) := by decide +kernel
theorem dL_withHash_1 : decode cL_withHash 1 = .ok (.iconst 0, 1) := by decide +kernel
theorem dL_withHash_2 : decode cL_withHash 2 = .ok (.aload_n 0, 1) := by decide +kernel
theorem dL_withHash_3 : decode cL_withHash 3 = .ok (.iload_n 1, 1) := by decide +kernel
theorem dL_withHash_4 : decode cL_withHash 4 = .ok (.invokevirtual 72, 3) := by decide +kernel
theorem dL_withHash_7 : decode cL_withHash 7 = .ok (.i2l, 1) := by decide +kernel
theorem dL_withHash_8 : decode cL_withHash 8 = .ok (.lastore, 1) := by decide +kernel
theorem dL_withHash_9 : decode cL_withHash 9 = .ok (.goto 6, 3) := by decide +kernel
theorem dL_withHash_12 : decode cL_withHash 12 = .ok (.astore_n 3, 1) := by decide +kernel
theorem dL_withHash_13 : decode cL_withHash 13 = .ok (.iconst 1, 1) := by decide +kernel
theorem dL_withHash_14 : decode cL_withHash 14 = .ok (.ireturn, 1) := by decide +kernel
theorem dL_withHash_15 : decode cL_withHash 15 = .ok (.iconst 0, 1) := by decide +kernel
theorem dL_withHash_16 : decode cL_withHash 16 = .ok (.ireturn, 1) := by decide +kernel
set_option maxRecDepth 20000 in
theorem ggL_depthOf_X6_depthOf : GoodIn wsL_depthOf wsX6_depthOf := goodIn_ca (goodIn_r _ [6, 7, 8, 9, 10, 11, 5, 12, 13, 14, 15, 16, 17, 18, 19, 20, 21, 22, 23, 24, 25, 26] (by decide +kernel) (by decide +kernel)) (goodIn_sub (fun _ h => List.mem_cons_of_mem _ (List.mem_append_right _ h)) (by decide +kernel))
set_option maxRecDepth 20000 in
theorem gL_depthOf_X6_depthOf : GoodIn wsL_depthOf (wsV RL 75 RX6 yX6_depthOf wsX6_depthOf) := goodIn_app (goodIn_of _ (by decide +kernel)) ggL_depthOf_X6_depthOf
theorem dL_depthOf_0 : decode cL_depthOf 0 = .ok (.aload_n 2, 1) := by decide +kernel
theorem dL_depthOf_1 : decode cL_depthOf 1 = .ok (.iconst 0, 1) := by decide +kernel
theorem dL_depthOf_2 : decode cL_depthOf 2 = .ok (.aload_n 0, 1) := by decide +kernel
theorem dL_depthOf_3 : decode cL_depthOf 3 = .ok (.iload_n 1, 1) := by decide +kernel
theorem dL_depthOf_4 : decode cL_depthOf 4 = .ok (.invokevirtual 75, 3) := by decide +kernel
theorem dL_depthOf_7 : decode cL_depthOf 7 = .ok (.i2l, 1) := by decide +kernel
theorem dL_depthOf_8 : decode cL_depthOf 8 = .ok (.lastore, 1) := by decide +kernel
theorem dL_depthOf_9 : decode cL_depthOf 9 = .ok (.goto 6, 3) := by decide +kernel
theorem dL_depthOf_12 : decode cL_depthOf 12 = .ok (.astore_n 3, 1) := by decide +kernel
theorem dL_depthOf_13 : decode cL_depthOf 13 = .ok (.iconst 1, 1) := by decide +kernel
theorem dL_depthOf_14 : decode cL_depthOf 14 = .ok (.ireturn, 1) := by decide +kernel
theorem dL_depthOf_15 : decode cL_depthOf 15 = .ok (.iconst 0, 1) := by decide +kernel
theorem dL_depthOf_16 : decode cL_depthOf 16 = .ok (.ireturn, 1) := by decide +kernel
set_option maxRecDepth 20000 in
theorem ggL_leafSize_X6_leafSize : GoodIn wsL_leafSize wsX6_leafSize := goodIn_ca (goodIn_r _ [6, 7, 8, 9, 10, 11, 12, 5, 13, 14, 15, 16, 17, 18, 19, 20, 21, 22, 23, 24, 25, 26, 27, 28, 29, 30, 31, 32, 33, 34, 35, 36, 37, 38, 39, 40, 41, 42, 43, 44, 45, 46, 47, 48] (by decide +kernel) (by decide +kernel)) (goodIn_sub (fun _ h => List.mem_cons_of_mem _ (List.mem_append_right _ h)) (by decide +kernel))
set_option maxRecDepth 20000 in
theorem gL_leafSize_X6_leafSize : GoodIn wsL_leafSize (wsV RL 78 RX6 yX6_leafSize wsX6_leafSize) := goodIn_app (goodIn_of _ (by decide +kernel)) ggL_leafSize_X6_leafSize
theorem dL_leafSize_0 : decode cL_leafSize 0 = .ok (.aload_n 2, 1) := by decide +kernel
theorem dL_leafSize_1 : decode cL_leafSize 1 = .ok (.iconst 0, 1) := by decide +kernel
theorem dL_leafSize_2 : decode cL_leafSize 2 = .ok (.aload_n 0, 1) := by decide +kernel
theorem dL_leafSize_3 : decode cL_leafSize 3 = .ok (.iload_n 1, 1) := by decide +kernel
theorem dL_leafSize_4 : decode cL_leafSize 4 = .ok (.invokevirtual 78, 3) := by decide +kernel
theorem dL_leafSize_7 : decode cL_leafSize 7 = .ok (.i2l, 1) := by decide +kernel
theorem dL_leafSize_8 : decode cL_leafSize 8 = .ok (.lastore, 1) := by decide +kernel
theorem dL_leafSize_9 : decode cL_leafSize 9 = .ok (.goto 6, 3) := by decide +kernel
theorem dL_leafSize_12 : decode cL_leafSize 12 = .ok (.astore_n 3, 1) := by decide +kernel
theorem dL_leafSize_13 : decode cL_leafSize 13 = .ok (.iconst 1, 1) := by decide +kernel
theorem dL_leafSize_14 : decode cL_leafSize 14 = .ok (.ireturn, 1) := by decide +kernel
theorem dL_leafSize_15 : decode cL_leafSize 15 = .ok (.iconst 0, 1) := by decide +kernel
theorem dL_leafSize_16 : decode cL_leafSize 16 = .ok (.ireturn, 1) := by decide +kernel
set_option maxRecDepth 20000 in
theorem ggL_leavesIfAdded_X6_leavesIfAdded : GoodIn wsL_leavesIfAdded wsX6_leavesIfAdded := goodIn_ca (goodIn_ca (goodIn_r _ [7, 8, 9, 10, 11, 12, 13, 6, 14, 15, 16, 17, 18, 19, 20, 21, 22, 23, 24, 25, 26, 27, 28, 29, 30, 31, 32, 33, 34, 35, 36, 37, 38, 39, 40, 41, 42, 43, 44, 45, 46, 47, 48, 49, 50, 51, 52, 53, 54, 55, 56, 57, 58, 59, 60, 61, 62, 63, 64, 65, 66, 67, 68, 69, 70, 71, 72, 73, 74, 75, 76, 77, 78, 79, 80, 81, 82, 83, 84, 85, 86, 87, 88, 89, 90, 91, 92, 93, 94, 95, 96, 97, 98, 99, 100, 101, 102, 103, 104, 105, 106, 107, 108, 109, 110, 111] (by decide +kernel) (by decide +kernel)) (goodIn_sub (fun _ h => List.mem_cons_of_mem _ (List.mem_append_left _ (List.mem_append_right _ h))) (by decide +kernel))) (goodIn_sub (fun _ h => List.mem_cons_of_mem _ (List.mem_append_right _ h)) (by decide +kernel))
set_option maxRecDepth 20000 in
theorem gL_leavesIfAdded_X6_leavesIfAdded : GoodIn wsL_leavesIfAdded (wsV RL 81 RX6 yX6_leavesIfAdded wsX6_leavesIfAdded) := goodIn_app (goodIn_of _ (by decide +kernel)) ggL_leavesIfAdded_X6_leavesIfAdded
