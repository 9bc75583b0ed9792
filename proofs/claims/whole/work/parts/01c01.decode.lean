theorem dX5_splitFrom_0 : decode cX5_splitFrom 0 = .ok (.aload_n 0, 1) := by decide +kernel
theorem dX5_splitFrom_1 : decode cX5_splitFrom 1 = .ok (.getfield 9, 3) := by decide +kernel
theorem dX5_splitFrom_4 : decode cX5_splitFrom 4 = .ok (.iload_n 1, 1) := by decide +kernel
theorem dX5_splitFrom_5 : decode cX5_splitFrom 5 = .ok (.iaload, 1) := by decide +kernel
theorem dX5_splitFrom_6 : decode cX5_splitFrom 6 = .ok (.istore_n 3, 1) := by decide +kernel
theorem dX5_splitFrom_7 : decode cX5_splitFrom 7 = .ok (.iload_n 3, 1) := by decide +kernel
theorem dX5_splitFrom_8 : decode cX5_splitFrom 8 = .ok (.bipush 6, 2) := by decide +kernel
theorem dX5_splitFrom_10 : decode cX5_splitFrom 10 = .ok (.if_icmp .ge 39, 3) := by decide +kernel
theorem dX5_splitFrom_13 : decode cX5_splitFrom 13 = .ok (.aload_n 2, 1) := by decide +kernel
theorem dX5_splitFrom_14 : decode cX5_splitFrom 14 = .ok (.iload_n 1, 1) := by decide +kernel
theorem dX5_splitFrom_15 : decode cX5_splitFrom 15 = .ok (.iload_n 3, 1) := by decide +kernel
theorem dX5_splitFrom_16 : decode cX5_splitFrom 16 = .ok (.invokevirtual 32, 3) := by decide +kernel
theorem dX5_splitFrom_19 : decode cX5_splitFrom 19 = .ok (.iconst 4, 1) := by decide +kernel
theorem dX5_splitFrom_20 : decode cX5_splitFrom 20 = .ok (.if_icmp .gt 4, 3) := by decide +kernel
theorem dX5_splitFrom_23 : decode cX5_splitFrom 23 = .ok (.return_, 1) := by decide +kernel
theorem dX5_splitFrom_24 : decode cX5_splitFrom 24 = .ok (.aload_n 0, 1) := by decide +kernel
theorem dX5_splitFrom_25 : decode cX5_splitFrom 25 = .ok (.iload_n 1, 1) := by decide +kernel
theorem dX5_splitFrom_26 : decode cX5_splitFrom 26 = .ok (.iload_n 3, 1) := by decide +kernel
theorem dX5_splitFrom_27 : decode cX5_splitFrom 27 = .ok (.iload_n 3, 1) := by decide +kernel
theorem dX5_splitFrom_28 : decode cX5_splitFrom 28 = .ok (.iconst 1, 1) := by decide +kernel
theorem dX5_splitFrom_29 : decode cX5_splitFrom 29 = .ok (.iadd, 1) := by decide +kernel
theorem dX5_splitFrom_30 : decode cX5_splitFrom 30 = .ok (.invokevirtual 41, 3) := by decide +kernel
theorem dX5_splitFrom_33 : decode cX5_splitFrom 33 = .ok (.aload_n 0, 1) := by decide +kernel
theorem dX5_splitFrom_34 : decode cX5_splitFrom 34 = .ok (.dup, 1) := by decide +kernel
theorem dX5_splitFrom_35 : decode cX5_splitFrom 35 = .ok (.getfield 15, 3) := by decide +kernel
theorem dX5_splitFrom_38 : decode cX5_splitFrom 38 = .ok (.iconst 1, 1) := by decide +kernel
theorem dX5_splitFrom_39 : decode cX5_splitFrom 39 = .ok (.iadd, 1) := by decide +kernel
theorem dX5_splitFrom_40 : decode cX5_splitFrom 40 = .ok (.putfield 15, 3) := by decide +kernel
theorem dX5_splitFrom_43 : decode cX5_splitFrom 43 = .ok (.iinc 3 1, 3) := by decide +kernel
theorem dX5_splitFrom_46 : decode cX5_splitFrom 46 = .ok (.goto (-39), 3) := by decide +kernel
theorem dX5_splitFrom_49 : decode cX5_splitFrom 49 = .ok (.return_, 1) := by decide +kernel
set_option maxRecDepth 20000 in
theorem ggX5_mergeFrom_X5_siblingHash : GoodIn wsX5_mergeFrom wsX5_siblingHash := goodIn_r _ [6] (by decide +kernel) (by decide +kernel)
set_option maxRecDepth 20000 in
theorem gX5_mergeFrom_X5_siblingHash : GoodIn wsX5_mergeFrom (va_wsS RX5 45 yX5_siblingHash wsX5_siblingHash) := goodIn_app (goodIn_of _ (by decide +kernel)) ggX5_mergeFrom_X5_siblingHash
set_option maxRecDepth 20000 in
theorem ggX5_mergeFrom_X0_countInBranch : GoodIn wsX5_mergeFrom wsX0_countInBranch := goodIn_r _ [11, 12, 13, 5, 14, 15, 16, 17, 18, 19, 20, 10, 21, 22, 23, 33, 34, 35] (by decide +kernel) (by decide +kernel)
set_option maxRecDepth 20000 in
theorem gX5_mergeFrom_X0_countInBranch : GoodIn wsX5_mergeFrom (wsV RX5 32 RX0 yX0_countInBranch wsX0_countInBranch) := goodIn_app (goodIn_of _ (by decide +kernel)) ggX5_mergeFrom_X0_countInBranch
set_option maxRecDepth 20000 in
theorem ggX5_mergeFrom_X5_setDepth : GoodIn wsX5_mergeFrom wsX5_setDepth := goodIn_r _ [27, 1, 28, 16, 5, 17, 29, 13, 14, 30, 31, 32] (by decide +kernel) (by decide +kernel)
set_option maxRecDepth 20000 in
theorem gX5_mergeFrom_X5_setDepth : GoodIn wsX5_mergeFrom (wsV RX5 41 RX5 yX5_setDepth wsX5_setDepth) := goodIn_app (goodIn_of _ (by decide +kernel)) ggX5_mergeFrom_X5_setDepth
theorem dX5_mergeFrom_0 : decode cX5_mergeFrom 0 = .ok (.aload_n 0, 1) := by decide +kernel
theorem dX5_mergeFrom_1 : decode cX5_mergeFrom 1 = .ok (.getfield 9, 3) := by decide +kernel
theorem dX5_mergeFrom_4 : decode cX5_mergeFrom 4 = .ok (.iload_n 1, 1) := by decide +kernel
theorem dX5_mergeFrom_5 : decode cX5_mergeFrom 5 = .ok (.iaload, 1) := by decide +kernel
theorem dX5_mergeFrom_6 : decode cX5_mergeFrom 6 = .ok (.istore_n 3, 1) := by decide +kernel
theorem dX5_mergeFrom_7 : decode cX5_mergeFrom 7 = .ok (.iload_n 3, 1) := by decide +kernel
theorem dX5_mergeFrom_8 : decode cX5_mergeFrom 8 = .ok (.ifCond .le 69, 3) := by decide +kernel
theorem dX5_mergeFrom_11 : decode cX5_mergeFrom 11 = .ok (.aload_n 0, 1) := by decide +kernel
theorem dX5_mergeFrom_12 : decode cX5_mergeFrom 12 = .ok (.getfield 9, 3) := by decide +kernel
theorem dX5_mergeFrom_15 : decode cX5_mergeFrom 15 = .ok (.iload_n 1, 1) := by decide +kernel
theorem dX5_mergeFrom_16 : decode cX5_mergeFrom 16 = .ok (.iload_n 3, 1) := by decide +kernel
theorem dX5_mergeFrom_17 : decode cX5_mergeFrom 17 = .ok (.invokestatic 45, 3) := by decide +kernel
theorem dX5_mergeFrom_20 : decode cX5_mergeFrom 20 = .ok (.iaload, 1) := by decide +kernel
theorem dX5_mergeFrom_21 : decode cX5_mergeFrom 21 = .ok (.iload_n 3, 1) := by decide +kernel
theorem dX5_mergeFrom_22 : decode cX5_mergeFrom 22 = .ok (.if_icmp .ne 7, 3) := by decide +kernel
theorem dX5_mergeFrom_25 : decode cX5_mergeFrom 25 = .ok (.iconst 1, 1) := by decide +kernel
theorem dX5_mergeFrom_26 : decode cX5_mergeFrom 26 = .ok (.goto 4, 3) := by decide +kernel
theorem dX5_mergeFrom_29 : decode cX5_mergeFrom 29 = .ok (.iconst 0, 1) := by decide +kernel
theorem dX5_mergeFrom_30 : decode cX5_mergeFrom 30 = .ok (.istore 4, 2) := by decide +kernel
theorem dX5_mergeFrom_32 : decode cX5_mergeFrom 32 = .ok (.iload 4, 2) := by decide +kernel
theorem dX5_mergeFrom_34 : decode cX5_mergeFrom 34 = .ok (.ifCond .eq 15, 3) := by decide +kernel
theorem dX5_mergeFrom_37 : decode cX5_mergeFrom 37 = .ok (.aload_n 2, 1) := by decide +kernel
theorem dX5_mergeFrom_38 : decode cX5_mergeFrom 38 = .ok (.iload_n 1, 1) := by decide +kernel
theorem dX5_mergeFrom_39 : decode cX5_mergeFrom 39 = .ok (.iload_n 3, 1) := by decide +kernel
theorem dX5_mergeFrom_40 : decode cX5_mergeFrom 40 = .ok (.iconst 1, 1) := by decide +kernel
theorem dX5_mergeFrom_41 : decode cX5_mergeFrom 41 = .ok (.isub, 1) := by decide +kernel
theorem dX5_mergeFrom_42 : decode cX5_mergeFrom 42 = .ok (.invokevirtual 32, 3) := by decide +kernel
theorem dX5_mergeFrom_45 : decode cX5_mergeFrom 45 = .ok (.iconst 2, 1) := by decide +kernel
theorem dX5_mergeFrom_46 : decode cX5_mergeFrom 46 = .ok (.if_icmp .le 4, 3) := by decide +kernel
theorem dX5_mergeFrom_49 : decode cX5_mergeFrom 49 = .ok (.return_, 1) := by decide +kernel
theorem dX5_mergeFrom_50 : decode cX5_mergeFrom 50 = .ok (.aload_n 0, 1) := by decide +kernel
theorem dX5_mergeFrom_51 : decode cX5_mergeFrom 51 = .ok (.iload_n 1, 1) := by decide +kernel
theorem dX5_mergeFrom_52 : decode cX5_mergeFrom 52 = .ok (.iload_n 3, 1) := by decide +kernel
theorem dX5_mergeFrom_53 : decode cX5_mergeFrom 53 = .ok (.iconst 1, 1) := by decide +kernel
theorem dX5_mergeFrom_54 : decode cX5_mergeFrom 54 = .ok (.isub, 1) := by decide +kernel
theorem dX5_mergeFrom_55 : decode cX5_mergeFrom 55 = .ok (.iload_n 3, 1) := by decide +kernel
theorem dX5_mergeFrom_56 : decode cX5_mergeFrom 56 = .ok (.iconst 1, 1) := by decide +kernel
theorem dX5_mergeFrom_57 : decode cX5_mergeFrom 57 = .ok (.isub, 1) := by decide +kernel
theorem dX5_mergeFrom_58 : decode cX5_mergeFrom 58 = .ok (.invokevirtual 41, 3) := by decide +kernel
theorem dX5_mergeFrom_61 : decode cX5_mergeFrom 61 = .ok (.aload_n 0, 1) := by decide +kernel
theorem dX5_mergeFrom_62 : decode cX5_mergeFrom 62 = .ok (.dup, 1) := by decide +kernel
theorem dX5_mergeFrom_63 : decode cX5_mergeFrom 63 = .ok (.getfield 19, 3) := by decide +kernel
theorem dX5_mergeFrom_66 : decode cX5_mergeFrom 66 = .ok (.iconst 1, 1) := by decide +kernel
theorem dX5_mergeFrom_67 : decode cX5_mergeFrom 67 = .ok (.iadd, 1) := by decide +kernel
theorem dX5_mergeFrom_68 : decode cX5_mergeFrom 68 = .ok (.putfield 19, 3) := by decide +kernel
theorem dX5_mergeFrom_71 : decode cX5_mergeFrom 71 = .ok (.iinc 3 (-1), 3) := by decide +kernel
theorem dX5_mergeFrom_74 : decode cX5_mergeFrom 74 = .ok (.goto (-67), 3) := by decide +kernel
theorem dX5_mergeFrom_77 : decode cX5_mergeFrom 77 = .ok (.return_, 1) := by decide +kernel
set_option maxRecDepth 20000 in
theorem ggX5_setDepth_X5_lastHash : GoodIn wsX5_setDepth wsX5_lastHash := goodIn_r _ [5] (by decide +kernel) (by decide +kernel)
set_option maxRecDepth 20000 in
theorem gX5_setDepth_X5_lastHash : GoodIn wsX5_setDepth (va_wsS RX5 48 yX5_lastHash wsX5_lastHash) := goodIn_app (goodIn_of _ (by decide +kernel)) ggX5_setDepth_X5_lastHash
set_option maxRecDepth 20000 in
theorem ggX5_setDepth_X5_firstHash : GoodIn wsX5_setDepth wsX5_firstHash := goodIn_r _ [8] (by decide +kernel) (by decide +kernel)
set_option maxRecDepth 20000 in
theorem gX5_setDepth_X5_firstHash : GoodIn wsX5_setDepth (va_wsS RX5 28 yX5_firstHash wsX5_firstHash) := goodIn_app (goodIn_of _ (by decide +kernel)) ggX5_setDepth_X5_firstHash
theorem dX5_setDepth_0 : decode cX5_setDepth 0 = .ok (.iload_n 1, 1) := by decide +kernel
theorem dX5_setDepth_1 : decode cX5_setDepth 1 = .ok (.iload_n 2, 1) := by decide +kernel
theorem dX5_setDepth_2 : decode cX5_setDepth 2 = .ok (.invokestatic 48, 3) := by decide +kernel
theorem dX5_setDepth_5 : decode cX5_setDepth 5 = .ok (.istore 4, 2) := by decide +kernel
theorem dX5_setDepth_7 : decode cX5_setDepth 7 = .ok (.iload_n 1, 1) := by decide +kernel
theorem dX5_setDepth_8 : decode cX5_setDepth 8 = .ok (.iload_n 2, 1) := by decide +kernel
theorem dX5_setDepth_9 : decode cX5_setDepth 9 = .ok (.invokestatic 28, 3) := by decide +kernel
theorem dX5_setDepth_12 : decode cX5_setDepth 12 = .ok (.istore 5, 2) := by decide +kernel
theorem dX5_setDepth_14 : decode cX5_setDepth 14 = .ok (.iload 5, 2) := by decide +kernel
theorem dX5_setDepth_16 : decode cX5_setDepth 16 = .ok (.iload 4, 2) := by decide +kernel
theorem dX5_setDepth_18 : decode cX5_setDepth 18 = .ok (.if_icmp .gt 17, 3) := by decide +kernel
theorem dX5_setDepth_21 : decode cX5_setDepth 21 = .ok (.aload_n 0, 1) := by decide +kernel
theorem dX5_setDepth_22 : decode cX5_setDepth 22 = .ok (.getfield 9, 3) := by decide +kernel
theorem dX5_setDepth_25 : decode cX5_setDepth 25 = .ok (.iload 5, 2) := by decide +kernel
theorem dX5_setDepth_27 : decode cX5_setDepth 27 = .ok (.iload_n 3, 1) := by decide +kernel
theorem dX5_setDepth_28 : decode cX5_setDepth 28 = .ok (.iastore, 1) := by decide +kernel
theorem dX5_setDepth_29 : decode cX5_setDepth 29 = .ok (.iinc 5 1, 3) := by decide +kernel
theorem dX5_setDepth_32 : decode cX5_setDepth 32 = .ok (.goto (-18), 3) := by decide +kernel
theorem dX5_setDepth_35 : decode cX5_setDepth 35 = .ok (.return_, 1) := by decide +kernel
set_option maxRecDepth 20000 in
theorem ggX6_init_X3_init : GoodIn wsX6_init wsX3_init := goodIn_r _ [21, 22, 2, 3, 23, 24, 25, 26, 27, 28, 29, 30, 31, 32, 33, 34, 35, 36, 37, 38, 39, 40, 41, 42, 43, 44, 45, 74, 75, 76, 60, 61, 62, 63, 77, 78, 79] (by decide +kernel) (by decide +kernel)
set_option maxRecDepth 20000 in
theorem gX6_init_X3_init : GoodIn wsX6_init (wsX3_init) := ggX6_init_X3_init
set_option maxRecDepth 20000 in
theorem ggX6_init_X1_init : GoodIn wsX6_init wsX1_init := goodIn_r _ [48, 49, 2, 3, 50, 51, 52, 53, 5, 6, 54, 20, 21, 22, 23, 24, 25, 26, 27, 28, 29, 30, 31, 32, 33, 34, 35, 36, 37, 38, 39, 40, 41, 42, 43, 44, 45, 69, 70, 71, 60, 61, 62, 63, 74, 75, 76, 77, 78, 79] (by decide +kernel) (by decide +kernel)
set_option maxRecDepth 20000 in
theorem gX6_init_X1_init : GoodIn wsX6_init (wsX1_init) := ggX6_init_X1_init
set_option maxRecDepth 20000 in
theorem ggX6_init_X4_init : GoodIn wsX6_init wsX4_init := goodIn_r _ [56, 57, 2, 3, 31, 58, 59, 72, 73] (by decide +kernel) (by decide +kernel)
set_option maxRecDepth 20000 in
theorem gX6_init_X4_init_n33 : GoodIn wsX6_init (wsX4_init) := ggX6_init_X4_init
theorem dX6_init_0 : decode cX6_init 0 = .ok (.aload_n 0, 1) := by decide +kernel
theorem dX6_init_1 : decode cX6_init 1 = .ok (.invokespecial 3, 3) := by decide +kernel
theorem dX6_init_4 : decode cX6_init 4 = .ok (.aload_n 0, 1) := by decide +kernel
theorem dX6_init_5 : decode cX6_init 5 = .ok (.new 9, 3) := by decide +kernel
theorem dX6_init_8 : decode cX6_init 8 = .ok (.dup, 1) := by decide +kernel
theorem dX6_init_9 : decode cX6_init 9 = .ok (.invokespecial 11, 3) := by decide +kernel
theorem dX6_init_12 : decode cX6_init 12 = .ok (.putfield 12, 3) := by decide +kernel
theorem dX6_init_15 : decode cX6_init 15 = .ok (.aload_n 0, 1) := by decide +kernel
theorem dX6_init_16 : decode cX6_init 16 = .ok (.new 16, 3) := by decide +kernel
theorem dX6_init_19 : decode cX6_init 19 = .ok (.dup, 1) := by decide +kernel
theorem dX6_init_20 : decode cX6_init 20 = .ok (.invokespecial 18, 3) := by decide +kernel
theorem dX6_init_23 : decode cX6_init 23 = .ok (.putfield 19, 3) := by decide +kernel
theorem dX6_init_26 : decode cX6_init 26 = .ok (.aload_n 0, 1) := by decide +kernel
theorem dX6_init_27 : decode cX6_init 27 = .ok (.iconst 2, 1) := by decide +kernel
theorem dX6_init_28 : decode cX6_init 28 = .ok (.anewarray 9, 3) := by decide +kernel
theorem dX6_init_31 : decode cX6_init 31 = .ok (.putfield 23, 3) := by decide +kernel
theorem dX6_init_34 : decode cX6_init 34 = .ok (.aload_n 0, 1) := by decide +kernel
theorem dX6_init_35 : decode cX6_init 35 = .ok (.iconst 2, 1) := by decide +kernel
theorem dX6_init_36 : decode cX6_init 36 = .ok (.newarray .boolean, 2) := by decide +kernel
theorem dX6_init_38 : decode cX6_init 38 = .ok (.putfield 27, 3) := by decide +kernel
theorem dX6_init_41 : decode cX6_init 41 = .ok (.aload_n 0, 1) := by decide +kernel
theorem dX6_init_42 : decode cX6_init 42 = .ok (.new 31, 3) := by decide +kernel
theorem dX6_init_45 : decode cX6_init 45 = .ok (.dup, 1) := by decide +kernel
theorem dX6_init_46 : decode cX6_init 46 = .ok (.invokespecial 33, 3) := by decide +kernel
theorem dX6_init_49 : decode cX6_init 49 = .ok (.putfield 34, 3) := by decide +kernel
theorem dX6_init_52 : decode cX6_init 52 = .ok (.iconst 0, 1) := by decide +kernel
theorem dX6_init_53 : decode cX6_init 53 = .ok (.istore_n 1, 1) := by decide +kernel
theorem dX6_init_54 : decode cX6_init 54 = .ok (.iload_n 1, 1) := by decide +kernel
theorem dX6_init_55 : decode cX6_init 55 = .ok (.iconst 2, 1) := by decide +kernel
theorem dX6_init_56 : decode cX6_init 56 = .ok (.if_icmp .ge 22, 3) := by decide +kernel
theorem dX6_init_59 : decode cX6_init 59 = .ok (.aload_n 0, 1) := by decide +kernel
theorem dX6_init_60 : decode cX6_init 60 = .ok (.getfield 23, 3) := by decide +kernel
theorem dX6_init_63 : decode cX6_init 63 = .ok (.iload_n 1, 1) := by decide +kernel
theorem dX6_init_64 : decode cX6_init 64 = .ok (.new 9, 3) := by decide +kernel
theorem dX6_init_67 : decode cX6_init 67 = .ok (.dup, 1) := by decide +kernel
theorem dX6_init_68 : decode cX6_init 68 = .ok (.invokespecial 11, 3) := by decide +kernel
theorem dX6_init_71 : decode cX6_init 71 = .ok (.aastore, 1) := by decide +kernel
theorem dX6_init_72 : decode cX6_init 72 = .ok (.iinc 1 1, 3) := by decide +kernel
theorem dX6_init_75 : decode cX6_init 75 = .ok (.goto (-21), 3) := by decide +kernel
theorem dX6_init_78 : decode cX6_init 78 = .ok (.return_, 1) := by decide +kernel
set_option maxRecDepth 20000 in
theorem ggX6_add_X6_nameInText : GoodIn wsX6_add wsX6_nameInText := goodIn_ca (goodIn_r _ [8, 9, 10, 3, 11, 12, 13, 14, 15, 16, 17, 18, 19, 20, 21, 22, 23, 24, 25, 26, 27, 132, 133, 134, 135, 136, 137, 138] (by decide +kernel) (by decide +kernel)) (goodIn_sub (fun _ h => List.mem_cons_of_mem _ (List.mem_append_left _ (List.mem_append_right _ h))) (by decide +kernel))
set_option maxRecDepth 20000 in
theorem gX6_add_X6_nameInText : GoodIn wsX6_add (wsV RX6 38 RX6 yX6_nameInText wsX6_nameInText) := goodIn_app (goodIn_of _ (by decide +kernel)) ggX6_add_X6_nameInText
set_option maxRecDepth 20000 in
theorem ggX6_add_X6_requireAddable : GoodIn wsX6_add wsX6_requireAddable := goodIn_ca (goodIn_r _ [31, 32, 33, 2, 34, 35, 36, 37, 38, 39, 40, 41, 42, 43, 44, 45, 46, 47, 48, 49, 50, 51, 52, 53, 54, 55, 132, 133, 134, 135, 136, 139, 140, 141, 142, 143, 144, 145] (by decide +kernel) (by decide +kernel)) (goodIn_sub (fun _ h => List.mem_cons_of_mem _ (List.mem_append_right _ h)) (by decide +kernel))
set_option maxRecDepth 20000 in
theorem gX6_add_X6_requireAddable : GoodIn wsX6_add (wsV RX6 42 RX6 yX6_requireAddable wsX6_requireAddable) := goodIn_app (goodIn_of _ (by decide +kernel)) ggX6_add_X6_requireAddable
set_option maxRecDepth 20000 in
theorem ggX6_add_X1_push : GoodIn wsX6_add wsX1_push := goodIn_r _ [60, 61, 62, 63, 64, 65, 66, 37, 67, 39, 68, 69, 70, 71, 72, 73, 50, 74, 75, 76, 43, 77, 78, 79, 55, 45, 80, 81, 82, 83, 84, 85, 86, 87, 88, 146, 147, 148, 139, 140, 141, 142, 143, 144, 145, 149, 150, 151] (by decide +kernel) (by decide +kernel)
set_option maxRecDepth 20000 in
theorem gX6_add_X1_push : GoodIn wsX6_add (wsV RX6 46 RX1 yX1_push wsX1_push) := goodIn_app (goodIn_of _ (by decide +kernel)) ggX6_add_X1_push
set_option maxRecDepth 20000 in
theorem ggX6_add_X4_empty : GoodIn wsX6_add wsX4_empty := goodIn_r _ [92, 93, 137, 138] (by decide +kernel) (by decide +kernel)
set_option maxRecDepth 20000 in
theorem gX6_add_X4_empty : GoodIn wsX6_add (wsV RX6 50 RX4 yX4_empty wsX4_empty) := goodIn_app (goodIn_of _ (by decide +kernel)) ggX6_add_X4_empty
set_option maxRecDepth 20000 in
theorem ggX6_add_X3_makeEntry : GoodIn wsX6_add wsX3_makeEntry := goodIn_r _ [97, 50, 39, 68, 98, 99, 20, 100, 101, 102, 103, 25, 26, 27, 104, 105, 106, 43, 107, 45, 78, 55, 108, 109, 110, 111, 112, 113, 114, 83, 115, 85, 87, 116, 117, 118, 119, 120, 121, 122, 123, 124, 125, 126, 127, 128, 129, 130, 131, 139, 140, 141, 142, 143, 144, 145, 149, 150, 151] (by decide +kernel) (by decide +kernel)
set_option maxRecDepth 20000 in
theorem gX6_add_X3_makeEntry : GoodIn wsX6_add (wsV RX6 53 RX3 yX3_makeEntry wsX3_makeEntry) := goodIn_app (goodIn_of _ (by decide +kernel)) ggX6_add_X3_makeEntry
theorem dX6_add_0 : decode cX6_add 0 = .ok (.aload_n 0, 1) := by decide +kernel
theorem dX6_add_1 : decode cX6_add 1 = .ok (.invokevirtual 38, 3) := by decide +kernel
theorem dX6_add_4 : decode cX6_add 4 = .ok (.istore_n 1, 1) := by decide +kernel
theorem dX6_add_5 : decode cX6_add 5 = .ok (.aload_n 0, 1) := by decide +kernel
theorem dX6_add_6 : decode cX6_add 6 = .ok (.iload_n 1, 1) := by decide +kernel
theorem dX6_add_7 : decode cX6_add 7 = .ok (.invokevirtual 42, 3) := by decide +kernel
theorem dX6_add_10 : decode cX6_add 10 = .ok (.aload_n 0, 1) := by decide +kernel
theorem dX6_add_11 : decode cX6_add 11 = .ok (.getfield 19, 3) := by decide +kernel
theorem dX6_add_14 : decode cX6_add 14 = .ok (.aload_n 0, 1) := by decide +kernel
theorem dX6_add_15 : decode cX6_add 15 = .ok (.getfield 12, 3) := by decide +kernel
theorem dX6_add_18 : decode cX6_add 18 = .ok (.invokevirtual 46, 3) := by decide +kernel
theorem dX6_add_21 : decode cX6_add 21 = .ok (.aload_n 0, 1) := by decide +kernel
theorem dX6_add_22 : decode cX6_add 22 = .ok (.getfield 34, 3) := by decide +kernel
theorem dX6_add_25 : decode cX6_add 25 = .ok (.invokevirtual 50, 3) := by decide +kernel
theorem dX6_add_28 : decode cX6_add 28 = .ok (.aload_n 0, 1) := by decide +kernel
theorem dX6_add_29 : decode cX6_add 29 = .ok (.getfield 12, 3) := by decide +kernel
theorem dX6_add_32 : decode cX6_add 32 = .ok (.iload_n 1, 1) := by decide +kernel
theorem dX6_add_33 : decode cX6_add 33 = .ok (.invokevirtual 53, 3) := by decide +kernel
theorem dX6_add_36 : decode cX6_add 36 = .ok (.ireturn, 1) := by decide +kernel
set_option maxRecDepth 20000 in
theorem ggX6_remove_X6_placeOfEntry : GoodIn wsX6_remove wsX6_placeOfEntry := goodIn_ca (goodIn_r _ [9, 10, 11, 2, 3, 12, 13, 14, 15, 16, 17, 18, 19, 20, 21, 22, 98, 99, 100, 101, 102, 103, 104, 105, 106, 107, 108, 109] (by decide +kernel) (by decide +kernel)) (goodIn_sub (fun _ h => List.mem_cons_of_mem _ (List.mem_append_right _ h)) (by decide +kernel))
set_option maxRecDepth 20000 in
theorem gX6_remove_X6_placeOfEntry : GoodIn wsX6_remove (wsV RX6 57 RX6 yX6_placeOfEntry wsX6_placeOfEntry) := goodIn_app (goodIn_of _ (by decide +kernel)) ggX6_remove_X6_placeOfEntry
set_option maxRecDepth 20000 in
theorem ggX6_remove_X1_push : GoodIn wsX6_remove wsX1_push := goodIn_r _ [27, 28, 29, 30, 31, 32, 33, 34, 35, 36, 37, 38, 39, 40, 41, 42, 43, 44, 45, 46, 15, 47, 22, 48, 49, 17, 50, 51, 52, 53, 54, 55, 56, 57, 58, 110, 111, 112, 103, 104, 105, 106, 107, 108, 109, 113, 114, 115] (by decide +kernel) (by decide +kernel)
set_option maxRecDepth 20000 in
theorem gX6_remove_X1_push : GoodIn wsX6_remove (wsV RX6 46 RX1 yX1_push wsX1_push) := goodIn_app (goodIn_of _ (by decide +kernel)) ggX6_remove_X1_push
set_option maxRecDepth 20000 in
theorem ggX6_remove_X3_dropEntry : GoodIn wsX6_remove wsX3_dropEntry := goodIn_r _ [62, 36, 37, 63, 64, 65, 15, 66, 22, 67, 68, 69, 70, 17, 49, 71, 72, 73, 53, 74, 55, 58, 75, 76, 77, 78, 79, 80, 81, 82, 83, 84, 85, 86, 87, 88, 89, 90, 91, 92, 93, 94, 95, 96, 97, 103, 104, 105, 106, 107, 108, 109, 113, 114, 115] (by decide +kernel) (by decide +kernel)
set_option maxRecDepth 20000 in
theorem gX6_remove_X3_dropEntry : GoodIn wsX6_remove (wsV RX6 60 RX3 yX3_dropEntry wsX3_dropEntry) := goodIn_app (goodIn_of _ (by decide +kernel)) ggX6_remove_X3_dropEntry
theorem dX6_remove_0 : decode cX6_remove 0 = .ok (.aload_n 0, 1) := by decide +kernel
theorem dX6_remove_1 : decode cX6_remove 1 = .ok (.iload_n 1, 1) := by decide +kernel
theorem dX6_remove_2 : decode cX6_remove 2 = .ok (.invokevirtual 57, 3) := by decide +kernel
theorem dX6_remove_5 : decode cX6_remove 5 = .ok (.istore_n 2, 1) := by decide +kernel
theorem dX6_remove_6 : decode cX6_remove 6 = .ok (.aload_n 0, 1) := by decide +kernel
theorem dX6_remove_7 : decode cX6_remove 7 = .ok (.getfield 19, 3) := by decide +kernel
theorem dX6_remove_10 : decode cX6_remove 10 = .ok (.aload_n 0, 1) := by decide +kernel
theorem dX6_remove_11 : decode cX6_remove 11 = .ok (.getfield 12, 3) := by decide +kernel
theorem dX6_remove_14 : decode cX6_remove 14 = .ok (.invokevirtual 46, 3) := by decide +kernel
theorem dX6_remove_17 : decode cX6_remove 17 = .ok (.aload_n 0, 1) := by decide +kernel
theorem dX6_remove_18 : decode cX6_remove 18 = .ok (.getfield 12, 3) := by decide +kernel
theorem dX6_remove_21 : decode cX6_remove 21 = .ok (.iload_n 2, 1) := by decide +kernel
theorem dX6_remove_22 : decode cX6_remove 22 = .ok (.invokevirtual 60, 3) := by decide +kernel
theorem dX6_remove_25 : decode cX6_remove 25 = .ok (.aload_n 0, 1) := by decide +kernel
theorem dX6_remove_26 : decode cX6_remove 26 = .ok (.getfield 12, 3) := by decide +kernel
theorem dX6_remove_29 : decode cX6_remove 29 = .ok (.getfield 63, 3) := by decide +kernel
theorem dX6_remove_32 : decode cX6_remove 32 = .ok (.getfield 67, 3) := by decide +kernel
theorem dX6_remove_35 : decode cX6_remove 35 = .ok (.ireturn, 1) := by decide +kernel
set_option maxRecDepth 20000 in
theorem ggX6_rename_X6_placeOfEntry : GoodIn wsX6_rename wsX6_placeOfEntry := goodIn_ca (goodIn_r _ [10, 11, 12, 3, 13, 14, 15, 16, 17, 18, 19, 20, 21, 22, 23, 24, 154, 155, 156, 157, 158, 159, 160, 161, 162, 163, 164, 165] (by decide +kernel) (by decide +kernel)) (goodIn_sub (fun _ h => List.mem_cons_of_mem _ (List.mem_append_left _ (List.mem_append_right _ h))) (by decide +kernel))
set_option maxRecDepth 20000 in
theorem gX6_rename_X6_placeOfEntry : GoodIn wsX6_rename (wsV RX6 57 RX6 yX6_placeOfEntry wsX6_placeOfEntry) := goodIn_app (goodIn_of _ (by decide +kernel)) ggX6_rename_X6_placeOfEntry
set_option maxRecDepth 20000 in
theorem ggX6_rename_X6_nameInText : GoodIn wsX6_rename wsX6_nameInText := goodIn_ca (goodIn_r _ [28, 29, 30, 5, 31, 32, 33, 34, 35, 36, 37, 38, 39, 40, 41, 42, 43, 44, 45, 46, 47, 154, 155, 156, 157, 158, 166, 167] (by decide +kernel) (by decide +kernel)) (goodIn_sub (fun _ h => List.mem_cons_of_mem _ (List.mem_append_right _ h)) (by decide +kernel))
set_option maxRecDepth 20000 in
theorem gX6_rename_X6_nameInText : GoodIn wsX6_rename (wsV RX6 38 RX6 yX6_nameInText wsX6_nameInText) := goodIn_app (goodIn_of _ (by decide +kernel)) ggX6_rename_X6_nameInText
set_option maxRecDepth 20000 in
theorem ggX6_rename_X3_canRenameTo : GoodIn wsX6_rename wsX3_canRenameTo := goodIn_r _ [52, 53, 54, 55, 56, 57, 17, 58, 19, 59, 159, 160, 161, 162, 163, 164, 165] (by decide +kernel) (by decide +kernel)
set_option maxRecDepth 20000 in
theorem gX6_rename_X3_canRenameTo : GoodIn wsX6_rename (wsV RX6 73 RX3 yX3_canRenameTo wsX3_canRenameTo) := goodIn_app (goodIn_of _ (by decide +kernel)) ggX6_rename_X3_canRenameTo
set_option maxRecDepth 20000 in
theorem ggX6_rename_X1_push : GoodIn wsX6_rename wsX1_push := goodIn_r _ [64, 65, 66, 67, 68, 69, 70, 51, 71, 54, 72, 73, 74, 75, 76, 77, 53, 78, 79, 80, 17, 81, 24, 82, 59, 19, 83, 84, 85, 86, 87, 88, 89, 90, 91, 168, 169, 170, 159, 160, 161, 162, 163, 164, 165, 171, 172, 173] (by decide +kernel) (by decide +kernel)
set_option maxRecDepth 20000 in
theorem gX6_rename_X1_push : GoodIn wsX6_rename (wsV RX6 46 RX1 yX1_push wsX1_push) := goodIn_app (goodIn_of _ (by decide +kernel)) ggX6_rename_X1_push
set_option maxRecDepth 20000 in
theorem ggX6_rename_X4_empty : GoodIn wsX6_rename wsX4_empty := goodIn_r _ [95, 96, 166, 167] (by decide +kernel) (by decide +kernel)
set_option maxRecDepth 20000 in
theorem gX6_rename_X4_empty : GoodIn wsX6_rename (wsV RX6 50 RX4 yX4_empty wsX4_empty) := goodIn_app (goodIn_of _ (by decide +kernel)) ggX6_rename_X4_empty
set_option maxRecDepth 20000 in
theorem ggX6_rename_X3_dropEntry : GoodIn wsX6_rename wsX3_dropEntry := goodIn_r _ [100, 54, 72, 101, 102, 103, 17, 104, 24, 105, 106, 107, 108, 19, 59, 109, 110, 111, 86, 112, 88, 91, 113, 114, 115, 116, 117, 118, 119, 120, 121, 122, 123, 124, 125, 126, 127, 128, 129, 130, 131, 132, 133, 134, 135, 159, 160, 161, 162, 163, 164, 165, 171, 172, 173] (by decide +kernel) (by decide +kernel)
set_option maxRecDepth 20000 in
theorem gX6_rename_X3_dropEntry : GoodIn wsX6_rename (wsV RX6 60 RX3 yX3_dropEntry wsX3_dropEntry) := goodIn_app (goodIn_of _ (by decide +kernel)) ggX6_rename_X3_dropEntry
set_option maxRecDepth 20000 in
theorem ggX6_rename_X3_makeEntry : GoodIn wsX6_rename wsX3_makeEntry := goodIn_r _ [139, 53, 54, 72, 140, 141, 40, 142, 143, 144, 145, 45, 46, 47, 146, 147, 148, 17, 149, 19, 24, 59, 126, 127, 128, 129, 150, 151, 152, 86, 153, 88, 90, 116, 117, 118, 119, 120, 121, 122, 123, 124, 125, 130, 131, 132, 133, 134, 135, 159, 160, 161, 162, 163, 164, 165, 171, 172, 173] (by decide +kernel) (by decide +kernel)
set_option maxRecDepth 20000 in
theorem gX6_rename_X3_makeEntry : GoodIn wsX6_rename (wsV RX6 53 RX3 yX3_makeEntry wsX3_makeEntry) := goodIn_app (goodIn_of _ (by decide +kernel)) ggX6_rename_X3_makeEntry
theorem dX6_rename_0 : decode cX6_rename 0 = .ok (.aload_n 0, 1) := by decide +kernel
theorem dX6_rename_1 : decode cX6_rename 1 = .ok (.iload_n 1, 1) := by decide +kernel
theorem dX6_rename_2 : decode cX6_rename 2 = .ok (.invokevirtual 57, 3) := by decide +kernel
theorem dX6_rename_5 : decode cX6_rename 5 = .ok (.istore_n 2, 1) := by decide +kernel
theorem dX6_rename_6 : decode cX6_rename 6 = .ok (.aload_n 0, 1) := by decide +kernel
theorem dX6_rename_7 : decode cX6_rename 7 = .ok (.invokevirtual 38, 3) := by decide +kernel
theorem dX6_rename_10 : decode cX6_rename 10 = .ok (.istore_n 3, 1) := by decide +kernel
theorem dX6_rename_11 : decode cX6_rename 11 = .ok (.aload_n 0, 1) := by decide +kernel
theorem dX6_rename_12 : decode cX6_rename 12 = .ok (.getfield 12, 3) := by decide +kernel
theorem dX6_rename_15 : decode cX6_rename 15 = .ok (.iload_n 3, 1) := by decide +kernel
theorem dX6_rename_16 : decode cX6_rename 16 = .ok (.invokevirtual 73, 3) := by decide +kernel
theorem dX6_rename_19 : decode cX6_rename 19 = .ok (.ifCond .ne 13, 3) := by decide +kernel
theorem dX6_rename_22 : decode cX6_rename 22 = .ok (.new 77, 3) := by decide +kernel
theorem dX6_rename_25 : decode cX6_rename 25 = .ok (.dup, 1) := by decide +kernel
theorem dX6_rename_26 : decode cX6_rename 26 = .ok (.ldc 79, 2) := by decide +kernel
theorem dX6_rename_28 : decode cX6_rename 28 = .ok (.invokespecial 81, 3) := by decide +kernel
theorem dX6_rename_31 : decode cX6_rename 31 = .ok (.athrow, 1) := by decide +kernel
theorem dX6_rename_32 : decode cX6_rename 32 = .ok (.aload_n 0, 1) := by decide +kernel
theorem dX6_rename_33 : decode cX6_rename 33 = .ok (.getfield 19, 3) := by decide +kernel
theorem dX6_rename_36 : decode cX6_rename 36 = .ok (.aload_n 0, 1) := by decide +kernel
theorem dX6_rename_37 : decode cX6_rename 37 = .ok (.getfield 12, 3) := by decide +kernel
theorem dX6_rename_40 : decode cX6_rename 40 = .ok (.invokevirtual 46, 3) := by decide +kernel
theorem dX6_rename_43 : decode cX6_rename 43 = .ok (.aload_n 0, 1) := by decide +kernel
theorem dX6_rename_44 : decode cX6_rename 44 = .ok (.getfield 34, 3) := by decide +kernel
theorem dX6_rename_47 : decode cX6_rename 47 = .ok (.invokevirtual 50, 3) := by decide +kernel
theorem dX6_rename_50 : decode cX6_rename 50 = .ok (.aload_n 0, 1) := by decide +kernel
theorem dX6_rename_51 : decode cX6_rename 51 = .ok (.getfield 12, 3) := by decide +kernel
theorem dX6_rename_54 : decode cX6_rename 54 = .ok (.iload_n 2, 1) := by decide +kernel
theorem dX6_rename_55 : decode cX6_rename 55 = .ok (.invokevirtual 60, 3) := by decide +kernel
theorem dX6_rename_58 : decode cX6_rename 58 = .ok (.aload_n 0, 1) := by decide +kernel
theorem dX6_rename_59 : decode cX6_rename 59 = .ok (.getfield 12, 3) := by decide +kernel
theorem dX6_rename_62 : decode cX6_rename 62 = .ok (.iload_n 3, 1) := by decide +kernel
theorem dX6_rename_63 : decode cX6_rename 63 = .ok (.invokevirtual 53, 3) := by decide +kernel
theorem dX6_rename_66 : decode cX6_rename 66 = .ok (.ireturn, 1) := by decide +kernel
set_option maxRecDepth 20000 in
theorem ggX6_open_X6_requireReader : GoodIn wsX6_open wsX6_requireReader := goodIn_ca (goodIn_r _ [7, 8, 9] (by decide +kernel) (by decide +kernel)) (goodIn_sub (fun _ h => List.mem_cons_of_mem _ (List.mem_append_right _ h)) (by decide +kernel))
set_option maxRecDepth 20000 in
theorem gX6_open_X6_requireReader : GoodIn wsX6_open (va_wsS RX6 84 yX6_requireReader wsX6_requireReader) := goodIn_app (goodIn_of _ (by decide +kernel)) ggX6_open_X6_requireReader
set_option maxRecDepth 20000 in
theorem ggX6_open_X1_push : GoodIn wsX6_open wsX1_push := goodIn_r _ [14, 15, 16, 17, 18, 19, 20, 21, 22, 23, 24, 25, 26, 27, 28, 29, 30, 31, 32, 33, 34, 35, 36, 37, 38, 39, 40, 41, 42, 43, 44, 45, 46, 47, 48, 66, 67, 68, 62, 63, 64, 65, 69, 70, 71, 72, 73, 74] (by decide +kernel) (by decide +kernel)
set_option maxRecDepth 20000 in
theorem gX6_open_X1_push : GoodIn wsX6_open (wsV RX6 46 RX1 yX1_push wsX1_push) := goodIn_app (goodIn_of _ (by decide +kernel)) ggX6_open_X1_push
set_option maxRecDepth 20000 in
theorem ggX6_open_X3_openReaders : GoodIn wsX6_open wsX3_openReaders := goodIn_r _ [52, 53, 54, 55, 21, 56, 25, 62, 63, 64, 65] (by decide +kernel) (by decide +kernel)
set_option maxRecDepth 20000 in
theorem gX6_open_X3_openReaders : GoodIn wsX6_open (wsV RX6 91 RX3 yX3_openReaders wsX3_openReaders) := goodIn_app (goodIn_of _ (by decide +kernel)) ggX6_open_X3_openReaders
theorem dX6_open_0 : decode cX6_open 0 = .ok (.iload_n 1, 1) := by decide +kernel
theorem dX6_open_1 : decode cX6_open 1 = .ok (.invokestatic 84, 3) := by decide +kernel
theorem dX6_open_4 : decode cX6_open 4 = .ok (.aload_n 0, 1) := by decide +kernel
theorem dX6_open_5 : decode cX6_open 5 = .ok (.getfield 19, 3) := by decide +kernel
theorem dX6_open_8 : decode cX6_open 8 = .ok (.aload_n 0, 1) := by decide +kernel
theorem dX6_open_9 : decode cX6_open 9 = .ok (.getfield 12, 3) := by decide +kernel
theorem dX6_open_12 : decode cX6_open 12 = .ok (.invokevirtual 46, 3) := by decide +kernel
theorem dX6_open_15 : decode cX6_open 15 = .ok (.aload_n 0, 1) := by decide +kernel
theorem dX6_open_16 : decode cX6_open 16 = .ok (.getfield 12, 3) := by decide +kernel
theorem dX6_open_19 : decode cX6_open 19 = .ok (.getfield 87, 3) := by decide +kernel
theorem dX6_open_22 : decode cX6_open 22 = .ok (.iload_n 1, 1) := by decide +kernel
theorem dX6_open_23 : decode cX6_open 23 = .ok (.iconst (-1), 1) := by decide +kernel
theorem dX6_open_24 : decode cX6_open 24 = .ok (.iastore, 1) := by decide +kernel
theorem dX6_open_25 : decode cX6_open 25 = .ok (.aload_n 0, 1) := by decide +kernel
theorem dX6_open_26 : decode cX6_open 26 = .ok (.getfield 12, 3) := by decide +kernel
theorem dX6_open_29 : decode cX6_open 29 = .ok (.invokevirtual 91, 3) := by decide +kernel
theorem dX6_open_32 : decode cX6_open 32 = .ok (.ireturn, 1) := by decide +kernel
set_option maxRecDepth 20000 in
theorem ggX6_close_X6_requireReader : GoodIn wsX6_close wsX6_requireReader := goodIn_ca (goodIn_r _ [7, 8, 9] (by decide +kernel) (by decide +kernel)) (goodIn_sub (fun _ h => List.mem_cons_of_mem _ (List.mem_append_left _ (List.mem_append_right _ h))) (by decide +kernel))
set_option maxRecDepth 20000 in
theorem gX6_close_X6_requireReader : GoodIn wsX6_close (va_wsS RX6 84 yX6_requireReader wsX6_requireReader) := goodIn_app (goodIn_of _ (by decide +kernel)) ggX6_close_X6_requireReader
set_option maxRecDepth 20000 in
theorem ggX6_close_X6_requireOpen : GoodIn wsX6_close wsX6_requireOpen := goodIn_ca (goodIn_r _ [13, 14, 15, 2, 16, 17, 18, 19, 20, 21, 59, 60, 61, 62, 63, 64, 65, 66, 67] (by decide +kernel) (by decide +kernel)) (goodIn_sub (fun _ h => List.mem_cons_of_mem _ (List.mem_append_right _ h)) (by decide +kernel))
set_option maxRecDepth 20000 in
theorem gX6_close_X6_requireOpen : GoodIn wsX6_close (wsV RX6 94 RX6 yX6_requireOpen wsX6_requireOpen) := goodIn_app (goodIn_of _ (by decide +kernel)) ggX6_close_X6_requireOpen
set_option maxRecDepth 20000 in
theorem ggX6_close_X1_push : GoodIn wsX6_close wsX1_push := goodIn_r _ [26, 27, 28, 29, 30, 31, 32, 19, 33, 34, 35, 21, 36, 37, 38, 39, 40, 41, 42, 43, 44, 45, 46, 47, 48, 49, 50, 51, 52, 53, 54, 55, 56, 57, 58, 68, 69, 70, 64, 65, 66, 67, 71, 72, 73, 74, 75, 76] (by decide +kernel) (by decide +kernel)
set_option maxRecDepth 20000 in
theorem gX6_close_X1_push : GoodIn wsX6_close (wsV RX6 46 RX1 yX1_push wsX1_push) := goodIn_app (goodIn_of _ (by decide +kernel)) ggX6_close_X1_push
theorem dX6_close_0 : decode cX6_close 0 = .ok (.iload_n 1, 1) := by decide +kernel
theorem dX6_close_1 : decode cX6_close 1 = .ok (.invokestatic 84, 3) := by decide +kernel
theorem dX6_close_4 : decode cX6_close 4 = .ok (.aload_n 0, 1) := by decide +kernel
theorem dX6_close_5 : decode cX6_close 5 = .ok (.iload_n 1, 1) := by decide +kernel
theorem dX6_close_6 : decode cX6_close 6 = .ok (.invokevirtual 94, 3) := by decide +kernel
theorem dX6_close_9 : decode cX6_close 9 = .ok (.aload_n 0, 1) := by decide +kernel
theorem dX6_close_10 : decode cX6_close 10 = .ok (.getfield 19, 3) := by decide +kernel
theorem dX6_close_13 : decode cX6_close 13 = .ok (.aload_n 0, 1) := by decide +kernel
theorem dX6_close_14 : decode cX6_close 14 = .ok (.getfield 12, 3) := by decide +kernel
theorem dX6_close_17 : decode cX6_close 17 = .ok (.invokevirtual 46, 3) := by decide +kernel
theorem dX6_close_20 : decode cX6_close 20 = .ok (.aload_n 0, 1) := by decide +kernel
theorem dX6_close_21 : decode cX6_close 21 = .ok (.getfield 12, 3) := by decide +kernel
theorem dX6_close_24 : decode cX6_close 24 = .ok (.getfield 87, 3) := by decide +kernel
theorem dX6_close_27 : decode cX6_close 27 = .ok (.iload_n 1, 1) := by decide +kernel
theorem dX6_close_28 : decode cX6_close 28 = .ok (.iaload, 1) := by decide +kernel
theorem dX6_close_29 : decode cX6_close 29 = .ok (.istore_n 2, 1) := by decide +kernel
theorem dX6_close_30 : decode cX6_close 30 = .ok (.aload_n 0, 1) := by decide +kernel
theorem dX6_close_31 : decode cX6_close 31 = .ok (.getfield 12, 3) := by decide +kernel
theorem dX6_close_34 : decode cX6_close 34 = .ok (.getfield 87, 3) := by decide +kernel
theorem dX6_close_37 : decode cX6_close 37 = .ok (.iload_n 1, 1) := by decide +kernel
theorem dX6_close_38 : decode cX6_close 38 = .ok (.bipush (-2), 2) := by decide +kernel
theorem dX6_close_40 : decode cX6_close 40 = .ok (.iastore, 1) := by decide +kernel
theorem dX6_close_41 : decode cX6_close 41 = .ok (.iload_n 2, 1) := by decide +kernel
theorem dX6_close_42 : decode cX6_close 42 = .ok (.ireturn, 1) := by decide +kernel
set_option maxRecDepth 20000 in
theorem ggX6_next_X6_requireReader : GoodIn wsX6_next wsX6_requireReader := goodIn_ca (goodIn_r _ [10, 11, 12] (by decide +kernel) (by decide +kernel)) (goodIn_sub (fun _ h => List.mem_cons_of_mem _ (List.mem_append_left _ (List.mem_append_right _ h))) (by decide +kernel))
set_option maxRecDepth 20000 in
theorem gX6_next_X6_requireReader : GoodIn wsX6_next (va_wsS RX6 84 yX6_requireReader wsX6_requireReader) := goodIn_app (goodIn_of _ (by decide +kernel)) ggX6_next_X6_requireReader
set_option maxRecDepth 20000 in
theorem ggX6_next_X6_requireOpen : GoodIn wsX6_next wsX6_requireOpen := goodIn_ca (goodIn_r _ [16, 17, 18, 2, 19, 20, 21, 22, 23, 24, 74, 75, 76, 77, 78, 79, 80, 81, 82] (by decide +kernel) (by decide +kernel)) (goodIn_sub (fun _ h => List.mem_cons_of_mem _ (List.mem_append_right _ h)) (by decide +kernel))
set_option maxRecDepth 20000 in
theorem gX6_next_X6_requireOpen : GoodIn wsX6_next (wsV RX6 94 RX6 yX6_requireOpen wsX6_requireOpen) := goodIn_app (goodIn_of _ (by decide +kernel)) ggX6_next_X6_requireOpen
set_option maxRecDepth 20000 in
theorem ggX6_next_X1_push : GoodIn wsX6_next wsX1_push := goodIn_r _ [29, 30, 31, 32, 33, 34, 35, 22, 36, 37, 38, 24, 39, 40, 41, 42, 43, 44, 45, 46, 47, 48, 49, 50, 51, 52, 53, 54, 55, 56, 57, 58, 59, 60, 61, 86, 87, 88, 79, 80, 81, 82, 83, 84, 85, 89, 90, 91] (by decide +kernel) (by decide +kernel)
set_option maxRecDepth 20000 in
theorem gX6_next_X1_push : GoodIn wsX6_next (wsV RX6 46 RX1 yX1_push wsX1_push) := goodIn_app (goodIn_of _ (by decide +kernel)) ggX6_next_X1_push
set_option maxRecDepth 20000 in
theorem ggX6_next_X3_nextPlace : GoodIn wsX6_next wsX3_nextPlace := goodIn_r _ [65, 37, 24, 66, 67, 68, 47, 69, 52, 49, 79, 80, 81, 82, 83, 84, 85] (by decide +kernel) (by decide +kernel)
set_option maxRecDepth 20000 in
theorem gX6_next_X3_nextPlace : GoodIn wsX6_next (wsV RX6 97 RX3 yX3_nextPlace wsX3_nextPlace) := goodIn_app (goodIn_of _ (by decide +kernel)) ggX6_next_X3_nextPlace
set_option maxRecDepth 20000 in
theorem ggX6_next_X0_idIn : GoodIn wsX6_next wsX0_idIn := goodIn_r _ [73, 49, 83, 84, 85] (by decide +kernel) (by decide +kernel)
set_option maxRecDepth 20000 in
theorem gX6_next_X0_idIn : GoodIn wsX6_next (wsV RX6 103 RX0 yX0_idIn wsX0_idIn) := goodIn_app (goodIn_of _ (by decide +kernel)) ggX6_next_X0_idIn
theorem dX6_next_0 : decode cX6_next 0 = .ok (.iload_n 1, 1) := by decide +kernel
theorem dX6_next_1 : decode cX6_next 1 = .ok (.invokestatic 84, 3) := by decide +kernel
theorem dX6_next_4 : decode cX6_next 4 = .ok (.aload_n 0, 1) := by decide +kernel
theorem dX6_next_5 : decode cX6_next 5 = .ok (.iload_n 1, 1) := by decide +kernel
theorem dX6_next_6 : decode cX6_next 6 = .ok (.invokevirtual 94, 3) := by decide +kernel
theorem dX6_next_9 : decode cX6_next 9 = .ok (.aload_n 0, 1) := by decide +kernel
theorem dX6_next_10 : decode cX6_next 10 = .ok (.getfield 19, 3) := by decide +kernel
theorem dX6_next_13 : decode cX6_next 13 = .ok (.aload_n 0, 1) := by decide +kernel
theorem dX6_next_14 : decode cX6_next 14 = .ok (.getfield 12, 3) := by decide +kernel
theorem dX6_next_17 : decode cX6_next 17 = .ok (.invokevirtual 46, 3) := by decide +kernel
theorem dX6_next_20 : decode cX6_next 20 = .ok (.aload_n 0, 1) := by decide +kernel
theorem dX6_next_21 : decode cX6_next 21 = .ok (.getfield 12, 3) := by decide +kernel
theorem dX6_next_24 : decode cX6_next 24 = .ok (.iload_n 1, 1) := by decide +kernel
theorem dX6_next_25 : decode cX6_next 25 = .ok (.invokevirtual 97, 3) := by decide +kernel
theorem dX6_next_28 : decode cX6_next 28 = .ok (.istore_n 2, 1) := by decide +kernel
theorem dX6_next_29 : decode cX6_next 29 = .ok (.iload_n 2, 1) := by decide +kernel
theorem dX6_next_30 : decode cX6_next 30 = .ok (.aload_n 0, 1) := by decide +kernel
theorem dX6_next_31 : decode cX6_next 31 = .ok (.getfield 12, 3) := by decide +kernel
theorem dX6_next_34 : decode cX6_next 34 = .ok (.getfield 63, 3) := by decide +kernel
theorem dX6_next_37 : decode cX6_next 37 = .ok (.getfield 67, 3) := by decide +kernel
theorem dX6_next_40 : decode cX6_next 40 = .ok (.if_icmp .lt 6, 3) := by decide +kernel
theorem dX6_next_43 : decode cX6_next 43 = .ok (.bipush (-2), 2) := by decide +kernel
theorem dX6_next_45 : decode cX6_next 45 = .ok (.ireturn, 1) := by decide +kernel
theorem dX6_next_46 : decode cX6_next 46 = .ok (.aload_n 0, 1) := by decide +kernel
theorem dX6_next_47 : decode cX6_next 47 = .ok (.getfield 12, 3) := by decide +kernel
theorem dX6_next_50 : decode cX6_next 50 = .ok (.getfield 87, 3) := by decide +kernel
theorem dX6_next_53 : decode cX6_next 53 = .ok (.iload_n 1, 1) := by decide +kernel
theorem dX6_next_54 : decode cX6_next 54 = .ok (.aload_n 0, 1) := by decide +kernel
theorem dX6_next_55 : decode cX6_next 55 = .ok (.getfield 12, 3) := by decide +kernel
theorem dX6_next_58 : decode cX6_next 58 = .ok (.getfield 63, 3) := by decide +kernel
theorem dX6_next_61 : decode cX6_next 61 = .ok (.getfield 100, 3) := by decide +kernel
theorem dX6_next_64 : decode cX6_next 64 = .ok (.iload_n 2, 1) := by decide +kernel
theorem dX6_next_65 : decode cX6_next 65 = .ok (.iaload, 1) := by decide +kernel
theorem dX6_next_66 : decode cX6_next 66 = .ok (.iastore, 1) := by decide +kernel
theorem dX6_next_67 : decode cX6_next 67 = .ok (.aload_n 0, 1) := by decide +kernel
theorem dX6_next_68 : decode cX6_next 68 = .ok (.getfield 12, 3) := by decide +kernel
theorem dX6_next_71 : decode cX6_next 71 = .ok (.getfield 63, 3) := by decide +kernel
theorem dX6_next_74 : decode cX6_next 74 = .ok (.iload_n 2, 1) := by decide +kernel
theorem dX6_next_75 : decode cX6_next 75 = .ok (.invokevirtual 103, 3) := by decide +kernel
theorem dX6_next_78 : decode cX6_next 78 = .ok (.ireturn, 1) := by decide +kernel
set_option maxRecDepth 20000 in
theorem ggX6_readLeaf_X6_requireReader : GoodIn wsX6_readLeaf wsX6_requireReader := goodIn_ca (goodIn_r _ [9, 10, 11] (by decide +kernel) (by decide +kernel)) (goodIn_sub (fun _ h => List.mem_cons_of_mem _ (List.mem_append_left _ (List.mem_append_right _ h))) (by decide +kernel))
set_option maxRecDepth 20000 in
theorem gX6_readLeaf_X6_requireReader : GoodIn wsX6_readLeaf (va_wsS RX6 84 yX6_requireReader wsX6_requireReader) := goodIn_app (goodIn_of _ (by decide +kernel)) ggX6_readLeaf_X6_requireReader
set_option maxRecDepth 20000 in
theorem ggX6_readLeaf_X6_requireOpen : GoodIn wsX6_readLeaf wsX6_requireOpen := goodIn_ca (goodIn_r _ [15, 16, 17, 2, 18, 19, 20, 21, 22, 23, 82, 83, 84, 85, 86, 87, 88, 89, 90] (by decide +kernel) (by decide +kernel)) (goodIn_sub (fun _ h => List.mem_cons_of_mem _ (List.mem_append_right _ h)) (by decide +kernel))
set_option maxRecDepth 20000 in
theorem gX6_readLeaf_X6_requireOpen : GoodIn wsX6_readLeaf (wsV RX6 94 RX6 yX6_requireOpen wsX6_requireOpen) := goodIn_app (goodIn_of _ (by decide +kernel)) ggX6_readLeaf_X6_requireOpen
set_option maxRecDepth 20000 in
theorem ggX6_readLeaf_X1_push : GoodIn wsX6_readLeaf wsX1_push := goodIn_r _ [28, 29, 30, 31, 32, 33, 34, 21, 35, 36, 37, 23, 38, 39, 40, 41, 42, 43, 44, 45, 46, 47, 48, 49, 50, 51, 52, 53, 54, 55, 56, 57, 58, 59, 60, 94, 95, 96, 87, 88, 89, 90, 91, 92, 93, 97, 98, 99] (by decide +kernel) (by decide +kernel)
set_option maxRecDepth 20000 in
theorem gX6_readLeaf_X1_push : GoodIn wsX6_readLeaf (wsV RX6 46 RX1 yX1_push wsX1_push) := goodIn_app (goodIn_of _ (by decide +kernel)) ggX6_readLeaf_X1_push
set_option maxRecDepth 20000 in
theorem ggX6_readLeaf_X3_nextPlace : GoodIn wsX6_readLeaf wsX3_nextPlace := goodIn_r _ [64, 36, 23, 65, 66, 67, 46, 68, 51, 48, 87, 88, 89, 90, 91, 92, 93] (by decide +kernel) (by decide +kernel)
set_option maxRecDepth 20000 in
theorem gX6_readLeaf_X3_nextPlace : GoodIn wsX6_readLeaf (wsV RX6 97 RX3 yX3_nextPlace wsX3_nextPlace) := goodIn_app (goodIn_of _ (by decide +kernel)) ggX6_readLeaf_X3_nextPlace
set_option maxRecDepth 20000 in
theorem ggX6_readLeaf_X3_endOfLeafAt : GoodIn wsX6_readLeaf wsX3_endOfLeafAt := goodIn_r _ [72, 36, 73, 37, 74, 75, 76, 77, 46, 78, 48, 79, 80, 55, 81, 65, 66, 67, 68, 51, 87, 88, 89, 90, 91, 92, 93, 97, 98, 99] (by decide +kernel) (by decide +kernel)
set_option maxRecDepth 20000 in
theorem gX6_readLeaf_X3_endOfLeafAt : GoodIn wsX6_readLeaf (wsV RX6 106 RX3 yX3_endOfLeafAt wsX3_endOfLeafAt) := goodIn_app (goodIn_of _ (by decide +kernel)) ggX6_readLeaf_X3_endOfLeafAt
theorem dX6_readLeaf_0 : decode cX6_readLeaf 0 = .ok (.iload_n 1, 1) := by decide +kernel
theorem dX6_readLeaf_1 : decode cX6_readLeaf 1 = .ok (.invokestatic 84, 3) := by decide +kernel
theorem dX6_readLeaf_4 : decode cX6_readLeaf 4 = .ok (.aload_n 0, 1) := by decide +kernel
theorem dX6_readLeaf_5 : decode cX6_readLeaf 5 = .ok (.iload_n 1, 1) := by decide +kernel
theorem dX6_readLeaf_6 : decode cX6_readLeaf 6 = .ok (.invokevirtual 94, 3) := by decide +kernel
theorem dX6_readLeaf_9 : decode cX6_readLeaf 9 = .ok (.aload_n 0, 1) := by decide +kernel
theorem dX6_readLeaf_10 : decode cX6_readLeaf 10 = .ok (.getfield 19, 3) := by decide +kernel
theorem dX6_readLeaf_13 : decode cX6_readLeaf 13 = .ok (.aload_n 0, 1) := by decide +kernel
theorem dX6_readLeaf_14 : decode cX6_readLeaf 14 = .ok (.getfield 12, 3) := by decide +kernel
theorem dX6_readLeaf_17 : decode cX6_readLeaf 17 = .ok (.invokevirtual 46, 3) := by decide +kernel
theorem dX6_readLeaf_20 : decode cX6_readLeaf 20 = .ok (.aload_n 0, 1) := by decide +kernel
theorem dX6_readLeaf_21 : decode cX6_readLeaf 21 = .ok (.getfield 12, 3) := by decide +kernel
theorem dX6_readLeaf_24 : decode cX6_readLeaf 24 = .ok (.iload_n 1, 1) := by decide +kernel
theorem dX6_readLeaf_25 : decode cX6_readLeaf 25 = .ok (.invokevirtual 97, 3) := by decide +kernel
theorem dX6_readLeaf_28 : decode cX6_readLeaf 28 = .ok (.istore_n 2, 1) := by decide +kernel
theorem dX6_readLeaf_29 : decode cX6_readLeaf 29 = .ok (.aload_n 0, 1) := by decide +kernel
theorem dX6_readLeaf_30 : decode cX6_readLeaf 30 = .ok (.getfield 12, 3) := by decide +kernel
theorem dX6_readLeaf_33 : decode cX6_readLeaf 33 = .ok (.iload_n 2, 1) := by decide +kernel
theorem dX6_readLeaf_34 : decode cX6_readLeaf 34 = .ok (.invokevirtual 106, 3) := by decide +kernel
theorem dX6_readLeaf_37 : decode cX6_readLeaf 37 = .ok (.istore_n 3, 1) := by decide +kernel
theorem dX6_readLeaf_38 : decode cX6_readLeaf 38 = .ok (.iload_n 3, 1) := by decide +kernel
theorem dX6_readLeaf_39 : decode cX6_readLeaf 39 = .ok (.iload_n 2, 1) := by decide +kernel
theorem dX6_readLeaf_40 : decode cX6_readLeaf 40 = .ok (.if_icmp .gt 5, 3) := by decide +kernel
theorem dX6_readLeaf_43 : decode cX6_readLeaf 43 = .ok (.iconst 0, 1) := by decide +kernel
theorem dX6_readLeaf_44 : decode cX6_readLeaf 44 = .ok (.ireturn, 1) := by decide +kernel
theorem dX6_readLeaf_45 : decode cX6_readLeaf 45 = .ok (.aload_n 0, 1) := by decide +kernel
theorem dX6_readLeaf_46 : decode cX6_readLeaf 46 = .ok (.getfield 12, 3) := by decide +kernel
theorem dX6_readLeaf_49 : decode cX6_readLeaf 49 = .ok (.getfield 87, 3) := by decide +kernel
theorem dX6_readLeaf_52 : decode cX6_readLeaf 52 = .ok (.iload_n 1, 1) := by decide +kernel
theorem dX6_readLeaf_53 : decode cX6_readLeaf 53 = .ok (.aload_n 0, 1) := by decide +kernel
theorem dX6_readLeaf_54 : decode cX6_readLeaf 54 = .ok (.getfield 12, 3) := by decide +kernel
theorem dX6_readLeaf_57 : decode cX6_readLeaf 57 = .ok (.getfield 63, 3) := by decide +kernel
theorem dX6_readLeaf_60 : decode cX6_readLeaf 60 = .ok (.getfield 100, 3) := by decide +kernel
theorem dX6_readLeaf_63 : decode cX6_readLeaf 63 = .ok (.iload_n 3, 1) := by decide +kernel
theorem dX6_readLeaf_64 : decode cX6_readLeaf 64 = .ok (.iconst 1, 1) := by decide +kernel
theorem dX6_readLeaf_65 : decode cX6_readLeaf 65 = .ok (.isub, 1) := by decide +kernel
theorem dX6_readLeaf_66 : decode cX6_readLeaf 66 = .ok (.iaload, 1) := by decide +kernel
theorem dX6_readLeaf_67 : decode cX6_readLeaf 67 = .ok (.iastore, 1) := by decide +kernel
theorem dX6_readLeaf_68 : decode cX6_readLeaf 68 = .ok (.iload_n 3, 1) := by decide +kernel
theorem dX6_readLeaf_69 : decode cX6_readLeaf 69 = .ok (.iload_n 2, 1) := by decide +kernel
theorem dX6_readLeaf_70 : decode cX6_readLeaf 70 = .ok (.isub, 1) := by decide +kernel
theorem dX6_readLeaf_71 : decode cX6_readLeaf 71 = .ok (.ireturn, 1) := by decide +kernel
set_option maxRecDepth 20000 in
theorem ggX6_seek_X6_requireReader : GoodIn wsX6_seek wsX6_requireReader := goodIn_ca (goodIn_r _ [10, 11, 12] (by decide +kernel) (by decide +kernel)) (goodIn_sub (fun _ h => List.mem_cons_of_mem _ (List.mem_append_left _ (List.mem_append_right _ h))) (by decide +kernel))
set_option maxRecDepth 20000 in
theorem gX6_seek_X6_requireReader : GoodIn wsX6_seek (va_wsS RX6 84 yX6_requireReader wsX6_requireReader) := goodIn_app (goodIn_of _ (by decide +kernel)) ggX6_seek_X6_requireReader
set_option maxRecDepth 20000 in
theorem ggX6_seek_X6_requireOpen : GoodIn wsX6_seek wsX6_requireOpen := goodIn_ca (goodIn_r _ [16, 17, 18, 5, 19, 20, 21, 22, 23, 24, 62, 63, 64, 65, 66, 67, 68, 69, 70] (by decide +kernel) (by decide +kernel)) (goodIn_sub (fun _ h => List.mem_cons_of_mem _ (List.mem_append_right _ h)) (by decide +kernel))
set_option maxRecDepth 20000 in
theorem gX6_seek_X6_requireOpen : GoodIn wsX6_seek (wsV RX6 94 RX6 yX6_requireOpen wsX6_requireOpen) := goodIn_app (goodIn_of _ (by decide +kernel)) ggX6_seek_X6_requireOpen
set_option maxRecDepth 20000 in
theorem ggX6_seek_X1_push : GoodIn wsX6_seek wsX1_push := goodIn_r _ [29, 30, 31, 32, 33, 34, 35, 22, 36, 37, 38, 24, 39, 40, 41, 42, 43, 44, 45, 46, 47, 48, 49, 50, 51, 52, 53, 54, 55, 56, 57, 58, 59, 60, 61, 71, 72, 73, 67, 68, 69, 70, 74, 75, 76, 77, 78, 79] (by decide +kernel) (by decide +kernel)
set_option maxRecDepth 20000 in
theorem gX6_seek_X1_push : GoodIn wsX6_seek (wsV RX6 46 RX1 yX1_push wsX1_push) := goodIn_app (goodIn_of _ (by decide +kernel)) ggX6_seek_X1_push
theorem dX6_seek_0 : decode cX6_seek 0 = .ok (.iload_n 1, 1) := by decide +kernel
theorem dX6_seek_1 : decode cX6_seek 1 = .ok (.invokestatic 84, 3) := by decide +kernel
theorem dX6_seek_4 : decode cX6_seek 4 = .ok (.iload_n 2, 1) := by decide +kernel
theorem dX6_seek_5 : decode cX6_seek 5 = .ok (.iconst (-1), 1) := by decide +kernel
theorem dX6_seek_6 : decode cX6_seek 6 = .ok (.if_icmp .lt 9, 3) := by decide +kernel
theorem dX6_seek_9 : decode cX6_seek 9 = .ok (.iload_n 2, 1) := by decide +kernel
theorem dX6_seek_10 : decode cX6_seek 10 = .ok (.ldc 109, 2) := by decide +kernel
theorem dX6_seek_12 : decode cX6_seek 12 = .ok (.if_icmp .lt 13, 3) := by decide +kernel
theorem dX6_seek_15 : decode cX6_seek 15 = .ok (.new 110, 3) := by decide +kernel
theorem dX6_seek_18 : decode cX6_seek 18 = .ok (.dup, 1) := by decide +kernel
theorem dX6_seek_19 : decode cX6_seek 19 = .ok (.ldc 112, 2) := by decide +kernel
theorem dX6_seek_21 : decode cX6_seek 21 = .ok (.invokespecial 114, 3) := by decide +kernel
theorem dX6_seek_24 : decode cX6_seek 24 = .ok (.athrow, 1) := by decide +kernel
theorem dX6_seek_25 : decode cX6_seek 25 = .ok (.aload_n 0, 1) := by decide +kernel
theorem dX6_seek_26 : decode cX6_seek 26 = .ok (.iload_n 1, 1) := by decide +kernel
theorem dX6_seek_27 : decode cX6_seek 27 = .ok (.invokevirtual 94, 3) := by decide +kernel
theorem dX6_seek_30 : decode cX6_seek 30 = .ok (.aload_n 0, 1) := by decide +kernel
theorem dX6_seek_31 : decode cX6_seek 31 = .ok (.getfield 19, 3) := by decide +kernel
theorem dX6_seek_34 : decode cX6_seek 34 = .ok (.aload_n 0, 1) := by decide +kernel
theorem dX6_seek_35 : decode cX6_seek 35 = .ok (.getfield 12, 3) := by decide +kernel
theorem dX6_seek_38 : decode cX6_seek 38 = .ok (.invokevirtual 46, 3) := by decide +kernel
theorem dX6_seek_41 : decode cX6_seek 41 = .ok (.aload_n 0, 1) := by decide +kernel
theorem dX6_seek_42 : decode cX6_seek 42 = .ok (.getfield 12, 3) := by decide +kernel
theorem dX6_seek_45 : decode cX6_seek 45 = .ok (.getfield 87, 3) := by decide +kernel
theorem dX6_seek_48 : decode cX6_seek 48 = .ok (.iload_n 1, 1) := by decide +kernel
theorem dX6_seek_49 : decode cX6_seek 49 = .ok (.iaload, 1) := by decide +kernel
theorem dX6_seek_50 : decode cX6_seek 50 = .ok (.istore_n 3, 1) := by decide +kernel
theorem dX6_seek_51 : decode cX6_seek 51 = .ok (.aload_n 0, 1) := by decide +kernel
theorem dX6_seek_52 : decode cX6_seek 52 = .ok (.getfield 12, 3) := by decide +kernel
theorem dX6_seek_55 : decode cX6_seek 55 = .ok (.getfield 87, 3) := by decide +kernel
theorem dX6_seek_58 : decode cX6_seek 58 = .ok (.iload_n 1, 1) := by decide +kernel
theorem dX6_seek_59 : decode cX6_seek 59 = .ok (.iload_n 2, 1) := by decide +kernel
theorem dX6_seek_60 : decode cX6_seek 60 = .ok (.iastore, 1) := by decide +kernel
theorem dX6_seek_61 : decode cX6_seek 61 = .ok (.iload_n 3, 1) := by decide +kernel
theorem dX6_seek_62 : decode cX6_seek 62 = .ok (.ireturn, 1) := by decide +kernel
set_option maxRecDepth 20000 in
theorem ggX6_appendText_X4_append : GoodIn wsX6_appendText wsX4_append := goodIn_r _ [11, 12, 13, 19, 20] (by decide +kernel) (by decide +kernel)
set_option maxRecDepth 20000 in
theorem gX6_appendText_X4_append : GoodIn wsX6_appendText (wsV RX6 122 RX4 yX4_append wsX4_append) := goodIn_app (goodIn_of _ (by decide +kernel)) ggX6_appendText_X4_append
theorem dX6_appendText_0 : decode cX6_appendText 0 = .ok (.iload_n 1, 1) := by decide +kernel
theorem dX6_appendText_1 : decode cX6_appendText 1 = .ok (.bipush 32, 2) := by decide +kernel
theorem dX6_appendText_3 : decode cX6_appendText 3 = .ok (.if_icmp .lt 9, 3) := by decide +kernel
theorem dX6_appendText_6 : decode cX6_appendText 6 = .ok (.iload_n 1, 1) := by decide +kernel
theorem dX6_appendText_7 : decode cX6_appendText 7 = .ok (.bipush 126, 2) := by decide +kernel
theorem dX6_appendText_9 : decode cX6_appendText 9 = .ok (.if_icmp .le 13, 3) := by decide +kernel
theorem dX6_appendText_12 : decode cX6_appendText 12 = .ok (.new 110, 3) := by decide +kernel
theorem dX6_appendText_15 : decode cX6_appendText 15 = .ok (.dup, 1) := by decide +kernel
theorem dX6_appendText_16 : decode cX6_appendText 16 = .ok (.ldc 115, 2) := by decide +kernel
theorem dX6_appendText_18 : decode cX6_appendText 18 = .ok (.invokespecial 114, 3) := by decide +kernel
theorem dX6_appendText_21 : decode cX6_appendText 21 = .ok (.athrow, 1) := by decide +kernel
theorem dX6_appendText_22 : decode cX6_appendText 22 = .ok (.aload_n 0, 1) := by decide +kernel
theorem dX6_appendText_23 : decode cX6_appendText 23 = .ok (.getfield 34, 3) := by decide +kernel
theorem dX6_appendText_26 : decode cX6_appendText 26 = .ok (.getfield 117, 3) := by decide +kernel
theorem dX6_appendText_29 : decode cX6_appendText 29 = .ok (.bipush 80, 2) := by decide +kernel
theorem dX6_appendText_31 : decode cX6_appendText 31 = .ok (.if_icmp .lt 13, 3) := by decide +kernel
theorem dX6_appendText_34 : decode cX6_appendText 34 = .ok (.new 77, 3) := by decide +kernel
theorem dX6_appendText_37 : decode cX6_appendText 37 = .ok (.dup, 1) := by decide +kernel
theorem dX6_appendText_38 : decode cX6_appendText 38 = .ok (.ldc 120, 2) := by decide +kernel
theorem dX6_appendText_40 : decode cX6_appendText 40 = .ok (.invokespecial 81, 3) := by decide +kernel
theorem dX6_appendText_43 : decode cX6_appendText 43 = .ok (.athrow, 1) := by decide +kernel
theorem dX6_appendText_44 : decode cX6_appendText 44 = .ok (.aload_n 0, 1) := by decide +kernel
theorem dX6_appendText_45 : decode cX6_appendText 45 = .ok (.getfield 34, 3) := by decide +kernel
theorem dX6_appendText_48 : decode cX6_appendText 48 = .ok (.iload_n 1, 1) := by decide +kernel
theorem dX6_appendText_49 : decode cX6_appendText 49 = .ok (.invokevirtual 122, 3) := by decide +kernel
theorem dX6_appendText_52 : decode cX6_appendText 52 = .ok (.aload_n 0, 1) := by decide +kernel
theorem dX6_appendText_53 : decode cX6_appendText 53 = .ok (.getfield 34, 3) := by decide +kernel
theorem dX6_appendText_56 : decode cX6_appendText 56 = .ok (.getfield 117, 3) := by decide +kernel
theorem dX6_appendText_59 : decode cX6_appendText 59 = .ok (.ireturn, 1) := by decide +kernel
set_option maxRecDepth 20000 in
theorem ggX6_clearText_X4_empty : GoodIn wsX6_clearText wsX4_empty := goodIn_r _ [7, 8, 14, 15] (by decide +kernel) (by decide +kernel)
set_option maxRecDepth 20000 in
theorem gX6_clearText_X4_empty : GoodIn wsX6_clearText (wsV RX6 50 RX4 yX4_empty wsX4_empty) := goodIn_app (goodIn_of _ (by decide +kernel)) ggX6_clearText_X4_empty
theorem dX6_clearText_0 : decode cX6_clearText 0 = .ok (.aload_n 0, 1) := by decide +kernel
theorem dX6_clearText_1 : decode cX6_clearText 1 = .ok (.getfield 34, 3) := by decide +kernel
theorem dX6_clearText_4 : decode cX6_clearText 4 = .ok (.getfield 117, 3) := by decide +kernel
theorem dX6_clearText_7 : decode cX6_clearText 7 = .ok (.istore_n 1, 1) := by decide +kernel
theorem dX6_clearText_8 : decode cX6_clearText 8 = .ok (.aload_n 0, 1) := by decide +kernel
theorem dX6_clearText_9 : decode cX6_clearText 9 = .ok (.getfield 34, 3) := by decide +kernel
theorem dX6_clearText_12 : decode cX6_clearText 12 = .ok (.invokevirtual 50, 3) := by decide +kernel
theorem dX6_clearText_15 : decode cX6_clearText 15 = .ok (.iload_n 1, 1) := by decide +kernel
theorem dX6_clearText_16 : decode cX6_clearText 16 = .ok (.ireturn, 1) := by decide +kernel
set_option maxRecDepth 20000 in
theorem ggX6_errorPosition_X4_commandError : GoodIn wsX6_errorPosition wsX4_commandError := goodIn_r _ [6, 7, 8, 9, 10, 5, 11, 12, 13, 14, 15, 16, 17, 18, 24, 25] (by decide +kernel) (by decide +kernel)
set_option maxRecDepth 20000 in
theorem gX6_errorPosition_X4_commandError : GoodIn wsX6_errorPosition (wsV RX6 125 RX4 yX4_commandError wsX4_commandError) := goodIn_app (goodIn_of _ (by decide +kernel)) ggX6_errorPosition_X4_commandError
theorem dX6_errorPosition_0 : decode cX6_errorPosition 0 = .ok (.aload_n 0, 1) := by decide +kernel
theorem dX6_errorPosition_1 : decode cX6_errorPosition 1 = .ok (.getfield 34, 3) := by decide +kernel
theorem dX6_errorPosition_4 : decode cX6_errorPosition 4 = .ok (.invokevirtual 125, 3) := by decide +kernel
theorem dX6_errorPosition_7 : decode cX6_errorPosition 7 = .ok (.ireturn, 1) := by decide +kernel
set_option maxRecDepth 20000 in
theorem ggX6_runText_X4_commandError : GoodIn wsX6_runText wsX4_commandError := goodIn_r _ [11, 12, 13, 14, 15, 10, 16, 17, 18, 19, 20, 21, 22, 23, 183, 184] (by decide +kernel) (by decide +kernel)
set_option maxRecDepth 20000 in
theorem gX6_runText_X4_commandError : GoodIn wsX6_runText (wsV RX6 125 RX4 yX4_commandError wsX4_commandError) := goodIn_app (goodIn_of _ (by decide +kernel)) ggX6_runText_X4_commandError
set_option maxRecDepth 20000 in
theorem ggX6_runText_X1_push : GoodIn wsX6_runText wsX1_push := goodIn_r _ [28, 29, 30, 31, 32, 33, 34, 35, 36, 37, 38, 39, 40, 41, 42, 43, 44, 45, 46, 47, 48, 49, 50, 51, 52, 53, 54, 55, 56, 57, 58, 59, 60, 61, 62, 185, 186, 187, 188, 189, 190, 191, 192, 193, 194, 195, 196, 197] (by decide +kernel) (by decide +kernel)
set_option maxRecDepth 20000 in
theorem gX6_runText_X1_push : GoodIn wsX6_runText (wsV RX6 46 RX1 yX1_push wsX1_push) := goodIn_app (goodIn_of _ (by decide +kernel)) ggX6_runText_X1_push
set_option maxRecDepth 20000 in
theorem ggX6_runText_X4_endsCommand : GoodIn wsX6_runText wsX4_endsCommand := goodIn_r _ [66, 12, 13, 183, 184] (by decide +kernel) (by decide +kernel)
set_option maxRecDepth 20000 in
theorem gX6_runText_X4_endsCommand : GoodIn wsX6_runText (wsV RX6 130 RX4 yX4_endsCommand wsX4_endsCommand) := goodIn_app (goodIn_of _ (by decide +kernel)) ggX6_runText_X4_endsCommand
set_option maxRecDepth 20000 in
theorem ggX6_runText_X6_runCommand : GoodIn wsX6_runText wsX6_runCommand := goodIn_r _ [71, 3, 72, 73, 74, 10, 75, 13, 76, 77, 78, 79, 17, 18, 19, 20, 80, 81, 82, 83, 84, 85, 86, 87, 88, 70, 89, 5, 90, 91, 92, 35, 93, 37, 94, 95, 96, 48, 97, 53, 98, 99, 100, 101, 44, 102, 103, 104, 105, 52, 106, 107, 108, 109, 38, 110, 111, 112, 113, 114, 115, 116, 117, 118, 119, 50, 120, 121, 122, 123, 124, 125, 126, 57, 127, 59, 61, 128, 129, 130, 131, 132, 133, 134, 135, 136, 137, 138, 139, 140, 141, 142, 143, 144, 145, 146, 147, 148, 149, 150, 151, 152, 153, 154, 155, 156, 157, 158, 159, 160, 161, 162, 163, 164, 165, 62, 166, 167, 168, 169, 170, 171, 172, 173, 174, 175, 176, 177, 178, 179, 180, 181, 182, 183, 184, 188, 189, 190, 191, 192, 193, 194, 195, 196, 197] (by decide +kernel) (by decide +kernel)
set_option maxRecDepth 20000 in
theorem gX6_runText_X6_runCommand : GoodIn wsX6_runText (wsV RX6 133 RX6 yX6_runCommand wsX6_runCommand) := goodIn_app (goodIn_of _ (by decide +kernel)) ggX6_runText_X6_runCommand
theorem dX6_runText_0 : decode cX6_runText 0 = .ok (.aload_n 0, 1) := by decide +kernel
theorem dX6_runText_1 : decode cX6_runText 1 = .ok (.getfield 34, 3) := by decide +kernel
theorem dX6_runText_4 : decode cX6_runText 4 = .ok (.invokevirtual 125, 3) := by decide +kernel
theorem dX6_runText_7 : decode cX6_runText 7 = .ok (.bipush (-2), 2) := by decide +kernel
theorem dX6_runText_9 : decode cX6_runText 9 = .ok (.if_icmp .eq 13, 3) := by decide +kernel
theorem dX6_runText_12 : decode cX6_runText 12 = .ok (.new 110, 3) := by decide +kernel
theorem dX6_runText_15 : decode cX6_runText 15 = .ok (.dup, 1) := by decide +kernel
theorem dX6_runText_16 : decode cX6_runText 16 = .ok (.ldc 128, 2) := by decide +kernel
theorem dX6_runText_18 : decode cX6_runText 18 = .ok (.invokespecial 114, 3) := by decide +kernel
theorem dX6_runText_21 : decode cX6_runText 21 = .ok (.athrow, 1) := by decide +kernel
theorem dX6_runText_22 : decode cX6_runText 22 = .ok (.aload_n 0, 1) := by decide +kernel
theorem dX6_runText_23 : decode cX6_runText 23 = .ok (.getfield 19, 3) := by decide +kernel
theorem dX6_runText_26 : decode cX6_runText 26 = .ok (.aload_n 0, 1) := by decide +kernel
theorem dX6_runText_27 : decode cX6_runText 27 = .ok (.getfield 12, 3) := by decide +kernel
theorem dX6_runText_30 : decode cX6_runText 30 = .ok (.invokevirtual 46, 3) := by decide +kernel
theorem dX6_runText_33 : decode cX6_runText 33 = .ok (.iconst 0, 1) := by decide +kernel
theorem dX6_runText_34 : decode cX6_runText 34 = .ok (.istore_n 1, 1) := by decide +kernel
theorem dX6_runText_35 : decode cX6_runText 35 = .ok (.iconst 0, 1) := by decide +kernel
theorem dX6_runText_36 : decode cX6_runText 36 = .ok (.istore_n 2, 1) := by decide +kernel
theorem dX6_runText_37 : decode cX6_runText 37 = .ok (.iconst 0, 1) := by decide +kernel
theorem dX6_runText_38 : decode cX6_runText 38 = .ok (.istore_n 3, 1) := by decide +kernel
theorem dX6_runText_39 : decode cX6_runText 39 = .ok (.iload_n 3, 1) := by decide +kernel
theorem dX6_runText_40 : decode cX6_runText 40 = .ok (.aload_n 0, 1) := by decide +kernel
theorem dX6_runText_41 : decode cX6_runText 41 = .ok (.getfield 34, 3) := by decide +kernel
theorem dX6_runText_44 : decode cX6_runText 44 = .ok (.getfield 117, 3) := by decide +kernel
theorem dX6_runText_47 : decode cX6_runText 47 = .ok (.if_icmp .gt 38, 3) := by decide +kernel
theorem dX6_runText_50 : decode cX6_runText 50 = .ok (.aload_n 0, 1) := by decide +kernel
theorem dX6_runText_51 : decode cX6_runText 51 = .ok (.getfield 34, 3) := by decide +kernel
theorem dX6_runText_54 : decode cX6_runText 54 = .ok (.iload_n 3, 1) := by decide +kernel
theorem dX6_runText_55 : decode cX6_runText 55 = .ok (.invokevirtual 130, 3) := by decide +kernel
theorem dX6_runText_58 : decode cX6_runText 58 = .ok (.ifCond .eq 21, 3) := by decide +kernel
theorem dX6_runText_61 : decode cX6_runText 61 = .ok (.aload_n 0, 1) := by decide +kernel
theorem dX6_runText_62 : decode cX6_runText 62 = .ok (.iload_n 2, 1) := by decide +kernel
theorem dX6_runText_63 : decode cX6_runText 63 = .ok (.iload_n 3, 1) := by decide +kernel
theorem dX6_runText_64 : decode cX6_runText 64 = .ok (.invokevirtual 133, 3) := by decide +kernel
theorem dX6_runText_67 : decode cX6_runText 67 = .ok (.ifCond .ne 5, 3) := by decide +kernel
theorem dX6_runText_70 : decode cX6_runText 70 = .ok (.iload_n 1, 1) := by decide +kernel
theorem dX6_runText_71 : decode cX6_runText 71 = .ok (.ireturn, 1) := by decide +kernel
theorem dX6_runText_72 : decode cX6_runText 72 = .ok (.iinc 1 1, 3) := by decide +kernel
theorem dX6_runText_75 : decode cX6_runText 75 = .ok (.iload_n 3, 1) := by decide +kernel
theorem dX6_runText_76 : decode cX6_runText 76 = .ok (.iconst 1, 1) := by decide +kernel
theorem dX6_runText_77 : decode cX6_runText 77 = .ok (.iadd, 1) := by decide +kernel
theorem dX6_runText_78 : decode cX6_runText 78 = .ok (.istore_n 2, 1) := by decide +kernel
theorem dX6_runText_79 : decode cX6_runText 79 = .ok (.iinc 3 1, 3) := by decide +kernel
theorem dX6_runText_82 : decode cX6_runText 82 = .ok (.goto (-43), 3) := by decide +kernel
theorem dX6_runText_85 : decode cX6_runText 85 = .ok (.iload_n 1, 1) := by decide +kernel
theorem dX6_runText_86 : decode cX6_runText 86 = .ok (.ireturn, 1) := by decide +kernel
set_option maxRecDepth 20000 in
theorem ggX6_undo_X1_popInto : GoodIn wsX6_undo wsX1_popInto := goodIn_r _ [10, 11, 12, 13, 14, 15, 16, 17, 18, 19, 20, 21, 22, 23, 24, 25, 26, 27, 28, 29, 30, 31, 32, 33, 34, 35, 36, 37, 38, 39, 40, 41, 42, 43, 44, 50, 51, 52, 53, 54, 55, 56, 57, 58, 59, 60, 61, 62] (by decide +kernel) (by decide +kernel)
set_option maxRecDepth 20000 in
theorem gX6_undo_X1_popInto : GoodIn wsX6_undo (wsV RX6 140 RX1 yX1_popInto wsX1_popInto) := goodIn_app (goodIn_of _ (by decide +kernel)) ggX6_undo_X1_popInto
theorem dX6_undo_0 : decode cX6_undo 0 = .ok (.aload_n 0, 1) := by decide +kernel
theorem dX6_undo_1 : decode cX6_undo 1 = .ok (.getfield 19, 3) := by decide +kernel
theorem dX6_undo_4 : decode cX6_undo 4 = .ok (.getfield 137, 3) := by decide +kernel
theorem dX6_undo_7 : decode cX6_undo 7 = .ok (.ifCond .ne 13, 3) := by decide +kernel
theorem dX6_undo_10 : decode cX6_undo 10 = .ok (.new 77, 3) := by decide +kernel
theorem dX6_undo_13 : decode cX6_undo 13 = .ok (.dup, 1) := by decide +kernel
theorem dX6_undo_14 : decode cX6_undo 14 = .ok (.ldc 138, 2) := by decide +kernel
theorem dX6_undo_16 : decode cX6_undo 16 = .ok (.invokespecial 81, 3) := by decide +kernel
theorem dX6_undo_19 : decode cX6_undo 19 = .ok (.athrow, 1) := by decide +kernel
theorem dX6_undo_20 : decode cX6_undo 20 = .ok (.aload_n 0, 1) := by decide +kernel
theorem dX6_undo_21 : decode cX6_undo 21 = .ok (.getfield 19, 3) := by decide +kernel
theorem dX6_undo_24 : decode cX6_undo 24 = .ok (.aload_n 0, 1) := by decide +kernel
theorem dX6_undo_25 : decode cX6_undo 25 = .ok (.getfield 12, 3) := by decide +kernel
theorem dX6_undo_28 : decode cX6_undo 28 = .ok (.invokevirtual 140, 3) := by decide +kernel
theorem dX6_undo_31 : decode cX6_undo 31 = .ok (.aload_n 0, 1) := by decide +kernel
theorem dX6_undo_32 : decode cX6_undo 32 = .ok (.getfield 19, 3) := by decide +kernel
theorem dX6_undo_35 : decode cX6_undo 35 = .ok (.getfield 137, 3) := by decide +kernel
theorem dX6_undo_38 : decode cX6_undo 38 = .ok (.ireturn, 1) := by decide +kernel
set_option maxRecDepth 20000 in
theorem ggX6_save_X6_requireSlot : GoodIn wsX6_save wsX6_requireSlot := goodIn_ca (goodIn_r _ [9, 10, 11] (by decide +kernel) (by decide +kernel)) (goodIn_sub (fun _ h => List.mem_cons_of_mem _ (List.mem_append_right _ h)) (by decide +kernel))
set_option maxRecDepth 20000 in
theorem gX6_save_X6_requireSlot : GoodIn wsX6_save (va_wsS RX6 143 yX6_requireSlot wsX6_requireSlot) := goodIn_app (goodIn_of _ (by decide +kernel)) ggX6_save_X6_requireSlot
set_option maxRecDepth 20000 in
theorem ggX6_save_X3_copyFrom : GoodIn wsX6_save wsX3_copyFrom := goodIn_r _ [16, 17, 18, 19, 20, 21, 22, 23, 24, 25, 26, 27, 28, 29, 30, 31, 32, 33, 34, 35, 36, 37, 38, 39, 40, 41, 42, 48, 49, 50, 51, 52, 53, 54, 55, 56, 57] (by decide +kernel) (by decide +kernel)
set_option maxRecDepth 20000 in
theorem gX6_save_X3_copyFrom : GoodIn wsX6_save (wsV RX6 146 RX3 yX3_copyFrom wsX3_copyFrom) := goodIn_app (goodIn_of _ (by decide +kernel)) ggX6_save_X3_copyFrom
theorem dX6_save_0 : decode cX6_save 0 = .ok (.iload_n 1, 1) := by decide +kernel
theorem dX6_save_1 : decode cX6_save 1 = .ok (.invokestatic 143, 3) := by decide +kernel
theorem dX6_save_4 : decode cX6_save 4 = .ok (.aload_n 0, 1) := by decide +kernel
theorem dX6_save_5 : decode cX6_save 5 = .ok (.getfield 23, 3) := by decide +kernel
theorem dX6_save_8 : decode cX6_save 8 = .ok (.iload_n 1, 1) := by decide +kernel
theorem dX6_save_9 : decode cX6_save 9 = .ok (.aaload, 1) := by decide +kernel
theorem dX6_save_10 : decode cX6_save 10 = .ok (.aload_n 0, 1) := by decide +kernel
theorem dX6_save_11 : decode cX6_save 11 = .ok (.getfield 12, 3) := by decide +kernel
theorem dX6_save_14 : decode cX6_save 14 = .ok (.invokevirtual 146, 3) := by decide +kernel
theorem dX6_save_17 : decode cX6_save 17 = .ok (.aload_n 0, 1) := by decide +kernel
theorem dX6_save_18 : decode cX6_save 18 = .ok (.getfield 27, 3) := by decide +kernel
theorem dX6_save_21 : decode cX6_save 21 = .ok (.iload_n 1, 1) := by decide +kernel
theorem dX6_save_22 : decode cX6_save 22 = .ok (.iconst 1, 1) := by decide +kernel
theorem dX6_save_23 : decode cX6_save 23 = .ok (.bastore, 1) := by decide +kernel
theorem dX6_save_24 : decode cX6_save 24 = .ok (.aload_n 0, 1) := by decide +kernel
theorem dX6_save_25 : decode cX6_save 25 = .ok (.getfield 12, 3) := by decide +kernel
theorem dX6_save_28 : decode cX6_save 28 = .ok (.getfield 63, 3) := by decide +kernel
theorem dX6_save_31 : decode cX6_save 31 = .ok (.getfield 67, 3) := by decide +kernel
theorem dX6_save_34 : decode cX6_save 34 = .ok (.ireturn, 1) := by decide +kernel
set_option maxRecDepth 20000 in
theorem ggX6_restore_X6_requireSlot : GoodIn wsX6_restore wsX6_requireSlot := goodIn_ca (goodIn_r _ [12, 13, 14] (by decide +kernel) (by decide +kernel)) (goodIn_sub (fun _ h => List.mem_cons_of_mem _ (List.mem_append_right _ h)) (by decide +kernel))
set_option maxRecDepth 20000 in
theorem gX6_restore_X6_requireSlot : GoodIn wsX6_restore (va_wsS RX6 143 yX6_requireSlot wsX6_requireSlot) := goodIn_app (goodIn_of _ (by decide +kernel)) ggX6_restore_X6_requireSlot
set_option maxRecDepth 20000 in
theorem ggX6_restore_X1_push : GoodIn wsX6_restore wsX1_push := goodIn_r _ [19, 20, 21, 22, 23, 24, 25, 26, 27, 28, 29, 30, 31, 32, 33, 34, 35, 36, 37, 38, 39, 40, 41, 42, 43, 44, 45, 46, 47, 48, 49, 50, 51, 52, 53, 67, 68, 69, 60, 61, 62, 63, 64, 65, 66, 70, 71, 72] (by decide +kernel) (by decide +kernel)
set_option maxRecDepth 20000 in
theorem gX6_restore_X1_push : GoodIn wsX6_restore (wsV RX6 46 RX1 yX1_push wsX1_push) := goodIn_app (goodIn_of _ (by decide +kernel)) ggX6_restore_X1_push
set_option maxRecDepth 20000 in
theorem ggX6_restore_X3_copyFrom : GoodIn wsX6_restore wsX3_copyFrom := goodIn_r _ [27, 28, 29, 30, 31, 32, 33, 34, 35, 36, 37, 38, 39, 40, 41, 42, 43, 44, 45, 46, 47, 48, 49, 50, 51, 52, 53, 60, 61, 62, 63, 64, 65, 66, 70, 71, 72] (by decide +kernel) (by decide +kernel)
set_option maxRecDepth 20000 in
theorem gX6_restore_X3_copyFrom : GoodIn wsX6_restore (wsV RX6 146 RX3 yX3_copyFrom wsX3_copyFrom) := goodIn_app (goodIn_of _ (by decide +kernel)) ggX6_restore_X3_copyFrom
theorem dX6_restore_0 : decode cX6_restore 0 = .ok (.iload_n 1, 1) := by decide +kernel
theorem dX6_restore_1 : decode cX6_restore 1 = .ok (.invokestatic 143, 3) := by decide +kernel
theorem dX6_restore_4 : decode cX6_restore 4 = .ok (.aload_n 0, 1) := by decide +kernel
theorem dX6_restore_5 : decode cX6_restore 5 = .ok (.getfield 27, 3) := by decide +kernel
theorem dX6_restore_8 : decode cX6_restore 8 = .ok (.iload_n 1, 1) := by decide +kernel
theorem dX6_restore_9 : decode cX6_restore 9 = .ok (.baload, 1) := by decide +kernel
theorem dX6_restore_10 : decode cX6_restore 10 = .ok (.ifCond .ne 13, 3) := by decide +kernel
theorem dX6_restore_13 : decode cX6_restore 13 = .ok (.new 77, 3) := by decide +kernel
theorem dX6_restore_16 : decode cX6_restore 16 = .ok (.dup, 1) := by decide +kernel
theorem dX6_restore_17 : decode cX6_restore 17 = .ok (.ldc 149, 2) := by decide +kernel
theorem dX6_restore_19 : decode cX6_restore 19 = .ok (.invokespecial 81, 3) := by decide +kernel
theorem dX6_restore_22 : decode cX6_restore 22 = .ok (.athrow, 1) := by decide +kernel
theorem dX6_restore_23 : decode cX6_restore 23 = .ok (.aload_n 0, 1) := by decide +kernel
theorem dX6_restore_24 : decode cX6_restore 24 = .ok (.getfield 19, 3) := by decide +kernel
theorem dX6_restore_27 : decode cX6_restore 27 = .ok (.aload_n 0, 1) := by decide +kernel
theorem dX6_restore_28 : decode cX6_restore 28 = .ok (.getfield 12, 3) := by decide +kernel
theorem dX6_restore_31 : decode cX6_restore 31 = .ok (.invokevirtual 46, 3) := by decide +kernel
theorem dX6_restore_34 : decode cX6_restore 34 = .ok (.aload_n 0, 1) := by decide +kernel
theorem dX6_restore_35 : decode cX6_restore 35 = .ok (.getfield 12, 3) := by decide +kernel
theorem dX6_restore_38 : decode cX6_restore 38 = .ok (.aload_n 0, 1) := by decide +kernel
theorem dX6_restore_39 : decode cX6_restore 39 = .ok (.getfield 23, 3) := by decide +kernel
theorem dX6_restore_42 : decode cX6_restore 42 = .ok (.iload_n 1, 1) := by decide +kernel
theorem dX6_restore_43 : decode cX6_restore 43 = .ok (.aaload, 1) := by decide +kernel
theorem dX6_restore_44 : decode cX6_restore 44 = .ok (.invokevirtual 146, 3) := by decide +kernel
theorem dX6_restore_47 : decode cX6_restore 47 = .ok (.aload_n 0, 1) := by decide +kernel
theorem dX6_restore_48 : decode cX6_restore 48 = .ok (.getfield 12, 3) := by decide +kernel
theorem dX6_restore_51 : decode cX6_restore 51 = .ok (.getfield 63, 3) := by decide +kernel
theorem dX6_restore_54 : decode cX6_restore 54 = .ok (.getfield 67, 3) := by decide +kernel
theorem dX6_restore_57 : decode cX6_restore 57 = .ok (.ireturn, 1) := by decide +kernel
theorem dX6_entries_0 : decode cX6_entries 0 = .ok (.aload_n 0, 1) := by decide +kernel
theorem dX6_entries_1 : decode cX6_entries 1 = .ok (.getfield 12, 3) := by decide +kernel
theorem dX6_entries_4 : decode cX6_entries 4 = .ok (.getfield 63, 3) := by decide +kernel
theorem dX6_entries_7 : decode cX6_entries 7 = .ok (.getfield 67, 3) := by decide +kernel
theorem dX6_entries_10 : decode cX6_entries 10 = .ok (.ireturn, 1) := by decide +kernel
set_option maxRecDepth 20000 in
theorem ggX6_idAt_X0_idIn : GoodIn wsX6_idAt wsX0_idIn := goodIn_r _ [10, 11, 21, 22, 23] (by decide +kernel) (by decide +kernel)
set_option maxRecDepth 20000 in
theorem gX6_idAt_X0_idIn : GoodIn wsX6_idAt (wsV RX6 103 RX0 yX0_idIn wsX0_idIn) := goodIn_app (goodIn_of _ (by decide +kernel)) ggX6_idAt_X0_idIn
theorem dX6_idAt_0 : decode cX6_idAt 0 = .ok (.iload_n 1, 1) := by decide +kernel
theorem dX6_idAt_1 : decode cX6_idAt 1 = .ok (.ifCond .ge 13, 3) := by decide +kernel
theorem dX6_idAt_4 : decode cX6_idAt 4 = .ok (.new 151, 3) := by decide +kernel
theorem dX6_idAt_7 : decode cX6_idAt 7 = .ok (.dup, 1) := by decide +kernel
theorem dX6_idAt_8 : decode cX6_idAt 8 = .ok (.ldc 153, 2) := by decide +kernel
theorem dX6_idAt_10 : decode cX6_idAt 10 = .ok (.invokespecial 155, 3) := by decide +kernel
theorem dX6_idAt_13 : decode cX6_idAt 13 = .ok (.athrow, 1) := by decide +kernel
theorem dX6_idAt_14 : decode cX6_idAt 14 = .ok (.iload_n 1, 1) := by decide +kernel
theorem dX6_idAt_15 : decode cX6_idAt 15 = .ok (.aload_n 0, 1) := by decide +kernel
theorem dX6_idAt_16 : decode cX6_idAt 16 = .ok (.getfield 12, 3) := by decide +kernel
theorem dX6_idAt_19 : decode cX6_idAt 19 = .ok (.getfield 63, 3) := by decide +kernel
theorem dX6_idAt_22 : decode cX6_idAt 22 = .ok (.getfield 67, 3) := by decide +kernel
theorem dX6_idAt_25 : decode cX6_idAt 25 = .ok (.if_icmp .ge 17, 3) := by decide +kernel
theorem dX6_idAt_28 : decode cX6_idAt 28 = .ok (.aload_n 0, 1) := by decide +kernel
theorem dX6_idAt_29 : decode cX6_idAt 29 = .ok (.getfield 12, 3) := by decide +kernel
theorem dX6_idAt_32 : decode cX6_idAt 32 = .ok (.getfield 63, 3) := by decide +kernel
theorem dX6_idAt_35 : decode cX6_idAt 35 = .ok (.iload_n 1, 1) := by decide +kernel
theorem dX6_idAt_36 : decode cX6_idAt 36 = .ok (.invokevirtual 103, 3) := by decide +kernel
theorem dX6_idAt_39 : decode cX6_idAt 39 = .ok (.goto 5, 3) := by decide +kernel
theorem dX6_idAt_42 : decode cX6_idAt 42 = .ok (.bipush (-2), 2) := by decide +kernel
theorem dX6_idAt_44 : decode cX6_idAt 44 = .ok (.ireturn, 1) := by decide +kernel
set_option maxRecDepth 20000 in
theorem ggX6_find_X6_nameInText : GoodIn wsX6_find wsX6_nameInText := goodIn_ca (goodIn_r _ [7, 8, 9, 10, 11, 12, 13, 14, 15, 16, 17, 18, 19, 20, 21, 22, 23, 24, 25, 26, 27, 40, 41, 42, 43, 44, 49, 50] (by decide +kernel) (by decide +kernel)) (goodIn_sub (fun _ h => List.mem_cons_of_mem _ (List.mem_append_right _ h)) (by decide +kernel))
set_option maxRecDepth 20000 in
theorem gX6_find_X6_nameInText : GoodIn wsX6_find (wsV RX6 38 RX6 yX6_nameInText wsX6_nameInText) := goodIn_app (goodIn_of _ (by decide +kernel)) ggX6_find_X6_nameInText
set_option maxRecDepth 20000 in
theorem ggX6_find_X0_placeOfName : GoodIn wsX6_find wsX0_placeOfName := goodIn_r _ [32, 33, 34, 51, 52, 53] (by decide +kernel) (by decide +kernel)
set_option maxRecDepth 20000 in
theorem gX6_find_X0_placeOfName : GoodIn wsX6_find (wsV RX6 156 RX0 yX0_placeOfName wsX0_placeOfName) := goodIn_app (goodIn_of _ (by decide +kernel)) ggX6_find_X0_placeOfName
set_option maxRecDepth 20000 in
theorem ggX6_find_X0_idIn : GoodIn wsX6_find wsX0_idIn := goodIn_r _ [38, 39, 51, 52, 53] (by decide +kernel) (by decide +kernel)
set_option maxRecDepth 20000 in
theorem gX6_find_X0_idIn : GoodIn wsX6_find (wsV RX6 103 RX0 yX0_idIn wsX0_idIn) := goodIn_app (goodIn_of _ (by decide +kernel)) ggX6_find_X0_idIn
theorem dX6_find_0 : decode cX6_find 0 = .ok (.aload_n 0, 1) := by decide +kernel
theorem dX6_find_1 : decode cX6_find 1 = .ok (.getfield 12, 3) := by decide +kernel
theorem dX6_find_4 : decode cX6_find 4 = .ok (.getfield 63, 3) := by decide +kernel
theorem dX6_find_7 : decode cX6_find 7 = .ok (.aload_n 0, 1) := by decide +kernel
theorem dX6_find_8 : decode cX6_find 8 = .ok (.invokevirtual 38, 3) := by decide +kernel
theorem dX6_find_11 : decode cX6_find 11 = .ok (.invokevirtual 156, 3) := by decide +kernel
theorem dX6_find_14 : decode cX6_find 14 = .ok (.istore_n 1, 1) := by decide +kernel
theorem dX6_find_15 : decode cX6_find 15 = .ok (.iload_n 1, 1) := by decide +kernel
theorem dX6_find_16 : decode cX6_find 16 = .ok (.iconst (-1), 1) := by decide +kernel
theorem dX6_find_17 : decode cX6_find 17 = .ok (.if_icmp .ne 8, 3) := by decide +kernel
theorem dX6_find_20 : decode cX6_find 20 = .ok (.bipush (-2), 2) := by decide +kernel
theorem dX6_find_22 : decode cX6_find 22 = .ok (.goto 14, 3) := by decide +kernel
theorem dX6_find_25 : decode cX6_find 25 = .ok (.aload_n 0, 1) := by decide +kernel
theorem dX6_find_26 : decode cX6_find 26 = .ok (.getfield 12, 3) := by decide +kernel
theorem dX6_find_29 : decode cX6_find 29 = .ok (.getfield 63, 3) := by decide +kernel
theorem dX6_find_32 : decode cX6_find 32 = .ok (.iload_n 1, 1) := by decide +kernel
theorem dX6_find_33 : decode cX6_find 33 = .ok (.invokevirtual 103, 3) := by decide +kernel
theorem dX6_find_36 : decode cX6_find 36 = .ok (.ireturn, 1) := by decide +kernel
set_option maxRecDepth 20000 in
theorem ggX6_hashOfText_X6_nameInText : GoodIn wsX6_hashOfText wsX6_nameInText := goodIn_ca (goodIn_r _ [5, 6, 7, 8, 9, 10, 11, 12, 13, 14, 15, 16, 17, 18, 19, 20, 21, 22, 23, 24, 25, 32, 33, 34, 35, 36, 37, 38] (by decide +kernel) (by decide +kernel)) (goodIn_sub (fun _ h => List.mem_cons_of_mem _ (List.mem_append_right _ h)) (by decide +kernel))
set_option maxRecDepth 20000 in
theorem gX6_hashOfText_X6_nameInText : GoodIn wsX6_hashOfText (wsV RX6 38 RX6 yX6_nameInText wsX6_nameInText) := goodIn_app (goodIn_of _ (by decide +kernel)) ggX6_hashOfText_X6_nameInText
set_option maxRecDepth 20000 in
theorem ggX6_hashOfText_X2_hash : GoodIn wsX6_hashOfText wsX2_hash := goodIn_r _ [28, 29, 30, 18, 31, 23, 24, 25] (by decide +kernel) (by decide +kernel)
set_option maxRecDepth 20000 in
theorem gX6_hashOfText_X2_hash : GoodIn wsX6_hashOfText (va_wsS RX6 159 yX2_hash wsX2_hash) := goodIn_app (goodIn_of _ (by decide +kernel)) ggX6_hashOfText_X2_hash
theorem dX6_hashOfText_0 : decode cX6_hashOfText 0 = .ok (.aload_n 0, 1) := by decide +kernel
theorem dX6_hashOfText_1 : decode cX6_hashOfText 1 = .ok (.invokevirtual 38, 3) := by decide +kernel
theorem dX6_hashOfText_4 : decode cX6_hashOfText 4 = .ok (.invokestatic 159, 3) := by decide +kernel
theorem dX6_hashOfText_7 : decode cX6_hashOfText 7 = .ok (.ireturn, 1) := by decide +kernel
set_option maxRecDepth 20000 in
theorem ggX6_hashOf_X6_placeOfEntry : GoodIn wsX6_hashOf wsX6_placeOfEntry := goodIn_ca (goodIn_r _ [7, 8, 9, 1, 2, 10, 11, 12, 13, 14, 15, 16, 17, 18, 19, 20, 25, 26, 27, 28, 29, 30, 31, 32, 33, 34, 35, 36] (by decide +kernel) (by decide +kernel)) (goodIn_sub (fun _ h => List.mem_cons_of_mem _ (List.mem_append_right _ h)) (by decide +kernel))
set_option maxRecDepth 20000 in
theorem gX6_hashOf_X6_placeOfEntry : GoodIn wsX6_hashOf (wsV RX6 57 RX6 yX6_placeOfEntry wsX6_placeOfEntry) := goodIn_app (goodIn_of _ (by decide +kernel)) ggX6_hashOf_X6_placeOfEntry
set_option maxRecDepth 20000 in
theorem ggX6_hashOf_X0_hashIn : GoodIn wsX6_hashOf wsX0_hashIn := goodIn_r _ [24, 20, 34, 35, 36] (by decide +kernel) (by decide +kernel)
set_option maxRecDepth 20000 in
theorem gX6_hashOf_X0_hashIn : GoodIn wsX6_hashOf (wsV RX6 164 RX0 yX0_hashIn wsX0_hashIn) := goodIn_app (goodIn_of _ (by decide +kernel)) ggX6_hashOf_X0_hashIn
theorem dX6_hashOf_0 : decode cX6_hashOf 0 = .ok (.aload_n 0, 1) := by decide +kernel
theorem dX6_hashOf_1 : decode cX6_hashOf 1 = .ok (.getfield 12, 3) := by decide +kernel
theorem dX6_hashOf_4 : decode cX6_hashOf 4 = .ok (.getfield 63, 3) := by decide +kernel
theorem dX6_hashOf_7 : decode cX6_hashOf 7 = .ok (.aload_n 0, 1) := by decide +kernel
theorem dX6_hashOf_8 : decode cX6_hashOf 8 = .ok (.iload_n 1, 1) := by decide +kernel
theorem dX6_hashOf_9 : decode cX6_hashOf 9 = .ok (.invokevirtual 57, 3) := by decide +kernel
theorem dX6_hashOf_12 : decode cX6_hashOf 12 = .ok (.invokevirtual 164, 3) := by decide +kernel
theorem dX6_hashOf_15 : decode cX6_hashOf 15 = .ok (.ireturn, 1) := by decide +kernel
set_option maxRecDepth 20000 in
theorem ggX6_letterOf_X6_placeOfEntry : GoodIn wsX6_letterOf wsX6_placeOfEntry := goodIn_ca (goodIn_r _ [10, 1, 2, 3, 4, 11, 12, 13, 14, 15, 16, 17, 18, 19, 20, 21, 29, 30, 31, 32, 33, 34, 35, 36, 37, 38, 39, 40] (by decide +kernel) (by decide +kernel)) (goodIn_sub (fun _ h => List.mem_cons_of_mem _ (List.mem_append_right _ h)) (by decide +kernel))
set_option maxRecDepth 20000 in
theorem gX6_letterOf_X6_placeOfEntry : GoodIn wsX6_letterOf (wsV RX6 57 RX6 yX6_placeOfEntry wsX6_placeOfEntry) := goodIn_app (goodIn_of _ (by decide +kernel)) ggX6_letterOf_X6_placeOfEntry
set_option maxRecDepth 20000 in
theorem ggX6_letterOf_X2_letterNumber : GoodIn wsX6_letterOf wsX2_letterNumber := goodIn_r _ [25, 26, 27, 24, 28] (by decide +kernel) (by decide +kernel)
set_option maxRecDepth 20000 in
theorem gX6_letterOf_X2_letterNumber : GoodIn wsX6_letterOf (va_wsS RX6 170 yX2_letterNumber wsX2_letterNumber) := goodIn_app (goodIn_of _ (by decide +kernel)) ggX6_letterOf_X2_letterNumber
theorem dX6_letterOf_0 : decode cX6_letterOf 0 = .ok (.aload_n 0, 1) := by decide +kernel
theorem dX6_letterOf_1 : decode cX6_letterOf 1 = .ok (.iload_n 1, 1) := by decide +kernel
theorem dX6_letterOf_2 : decode cX6_letterOf 2 = .ok (.invokevirtual 57, 3) := by decide +kernel
theorem dX6_letterOf_5 : decode cX6_letterOf 5 = .ok (.istore_n 3, 1) := by decide +kernel
theorem dX6_letterOf_6 : decode cX6_letterOf 6 = .ok (.iload_n 2, 1) := by decide +kernel
theorem dX6_letterOf_7 : decode cX6_letterOf 7 = .ok (.ifCond .ge 13, 3) := by decide +kernel
theorem dX6_letterOf_10 : decode cX6_letterOf 10 = .ok (.new 151, 3) := by decide +kernel
theorem dX6_letterOf_13 : decode cX6_letterOf 13 = .ok (.dup, 1) := by decide +kernel
theorem dX6_letterOf_14 : decode cX6_letterOf 14 = .ok (.ldc 153, 2) := by decide +kernel
theorem dX6_letterOf_16 : decode cX6_letterOf 16 = .ok (.invokespecial 155, 3) := by decide +kernel
theorem dX6_letterOf_19 : decode cX6_letterOf 19 = .ok (.athrow, 1) := by decide +kernel
theorem dX6_letterOf_20 : decode cX6_letterOf 20 = .ok (.aload_n 0, 1) := by decide +kernel
theorem dX6_letterOf_21 : decode cX6_letterOf 21 = .ok (.getfield 12, 3) := by decide +kernel
theorem dX6_letterOf_24 : decode cX6_letterOf 24 = .ok (.getfield 63, 3) := by decide +kernel
theorem dX6_letterOf_27 : decode cX6_letterOf 27 = .ok (.getfield 167, 3) := by decide +kernel
theorem dX6_letterOf_30 : decode cX6_letterOf 30 = .ok (.iload_n 3, 1) := by decide +kernel
theorem dX6_letterOf_31 : decode cX6_letterOf 31 = .ok (.iaload, 1) := by decide +kernel
theorem dX6_letterOf_32 : decode cX6_letterOf 32 = .ok (.iload_n 2, 1) := by decide +kernel
theorem dX6_letterOf_33 : decode cX6_letterOf 33 = .ok (.invokestatic 170, 3) := by decide +kernel
theorem dX6_letterOf_36 : decode cX6_letterOf 36 = .ok (.istore 4, 2) := by decide +kernel
theorem dX6_letterOf_38 : decode cX6_letterOf 38 = .ok (.iload 4, 2) := by decide +kernel
theorem dX6_letterOf_40 : decode cX6_letterOf 40 = .ok (.ifCond .ne 8, 3) := by decide +kernel
theorem dX6_letterOf_43 : decode cX6_letterOf 43 = .ok (.bipush (-2), 2) := by decide +kernel
theorem dX6_letterOf_45 : decode cX6_letterOf 45 = .ok (.goto 10, 3) := by decide +kernel
theorem dX6_letterOf_48 : decode cX6_letterOf 48 = .ok (.bipush 97, 2) := by decide +kernel
theorem dX6_letterOf_50 : decode cX6_letterOf 50 = .ok (.iload 4, 2) := by decide +kernel
theorem dX6_letterOf_52 : decode cX6_letterOf 52 = .ok (.iadd, 1) := by decide +kernel
theorem dX6_letterOf_53 : decode cX6_letterOf 53 = .ok (.iconst 1, 1) := by decide +kernel
theorem dX6_letterOf_54 : decode cX6_letterOf 54 = .ok (.isub, 1) := by decide +kernel
theorem dX6_letterOf_55 : decode cX6_letterOf 55 = .ok (.ireturn, 1) := by decide +kernel
set_option maxRecDepth 20000 in
theorem ggX6_withHash_X6_requireHash : GoodIn wsX6_withHash wsX6_requireHash := goodIn_ca (goodIn_r _ [6, 7, 8] (by decide +kernel) (by decide +kernel)) (goodIn_sub (fun _ h => List.mem_cons_of_mem _ (List.mem_append_right _ h)) (by decide +kernel))
set_option maxRecDepth 20000 in
theorem gX6_withHash_X6_requireHash : GoodIn wsX6_withHash (va_wsS RX6 174 yX6_requireHash wsX6_requireHash) := goodIn_app (goodIn_of _ (by decide +kernel)) ggX6_withHash_X6_requireHash
set_option maxRecDepth 20000 in
theorem ggX6_withHash_X0_countInBranch : GoodIn wsX6_withHash wsX0_countInBranch := goodIn_r _ [13, 14, 15, 16, 17, 18, 19, 20, 21, 22, 23, 12, 24, 25, 26, 36, 37, 38] (by decide +kernel) (by decide +kernel)
set_option maxRecDepth 20000 in
theorem gX6_withHash_X0_countInBranch : GoodIn wsX6_withHash (wsV RX6 177 RX0 yX0_countInBranch wsX0_countInBranch) := goodIn_app (goodIn_of _ (by decide +kernel)) ggX6_withHash_X0_countInBranch
theorem dX6_withHash_0 : decode cX6_withHash 0 = .ok (.iload_n 1, 1) := by decide +kernel
theorem dX6_withHash_1 : decode cX6_withHash 1 = .ok (.invokestatic 174, 3) := by decide +kernel
theorem dX6_withHash_4 : decode cX6_withHash 4 = .ok (.aload_n 0, 1) := by decide +kernel
theorem dX6_withHash_5 : decode cX6_withHash 5 = .ok (.getfield 12, 3) := by decide +kernel
theorem dX6_withHash_8 : decode cX6_withHash 8 = .ok (.getfield 63, 3) := by decide +kernel
theorem dX6_withHash_11 : decode cX6_withHash 11 = .ok (.iload_n 1, 1) := by decide +kernel
theorem dX6_withHash_12 : decode cX6_withHash 12 = .ok (.bipush 6, 2) := by decide +kernel
theorem dX6_withHash_14 : decode cX6_withHash 14 = .ok (.invokevirtual 177, 3) := by decide +kernel
theorem dX6_withHash_17 : decode cX6_withHash 17 = .ok (.ireturn, 1) := by decide +kernel
set_option maxRecDepth 20000 in
theorem ggX6_leaves_X5_leafCount : GoodIn wsX6_leaves wsX5_leafCount := goodIn_r _ [7, 8, 9, 10, 6, 11, 21, 22, 23] (by decide +kernel) (by decide +kernel)
set_option maxRecDepth 20000 in
theorem gX6_leaves_X5_leafCount : GoodIn wsX6_leaves (wsV RX6 184 RX5 yX5_leafCount wsX5_leafCount) := goodIn_app (goodIn_of _ (by decide +kernel)) ggX6_leaves_X5_leafCount
theorem dX6_leaves_0 : decode cX6_leaves 0 = .ok (.aload_n 0, 1) := by decide +kernel
theorem dX6_leaves_1 : decode cX6_leaves 1 = .ok (.getfield 12, 3) := by decide +kernel
theorem dX6_leaves_4 : decode cX6_leaves 4 = .ok (.getfield 180, 3) := by decide +kernel
theorem dX6_leaves_7 : decode cX6_leaves 7 = .ok (.invokevirtual 184, 3) := by decide +kernel
theorem dX6_leaves_10 : decode cX6_leaves 10 = .ok (.ireturn, 1) := by decide +kernel
set_option maxRecDepth 20000 in
theorem ggX6_depthOf_X6_requireHash : GoodIn wsX6_depthOf wsX6_requireHash := goodIn_ca (goodIn_r _ [7, 8, 9] (by decide +kernel) (by decide +kernel)) (goodIn_sub (fun _ h => List.mem_cons_of_mem _ (List.mem_append_right _ h)) (by decide +kernel))
set_option maxRecDepth 20000 in
theorem gX6_depthOf_X6_requireHash : GoodIn wsX6_depthOf (va_wsS RX6 174 yX6_requireHash wsX6_requireHash) := goodIn_app (goodIn_of _ (by decide +kernel)) ggX6_depthOf_X6_requireHash
theorem dX6_depthOf_0 : decode cX6_depthOf 0 = .ok (.iload_n 1, 1) := by decide +kernel
theorem dX6_depthOf_1 : decode cX6_depthOf 1 = .ok (.invokestatic 174, 3) := by decide +kernel
theorem dX6_depthOf_4 : decode cX6_depthOf 4 = .ok (.aload_n 0, 1) := by decide +kernel
theorem dX6_depthOf_5 : decode cX6_depthOf 5 = .ok (.getfield 12, 3) := by decide +kernel
theorem dX6_depthOf_8 : decode cX6_depthOf 8 = .ok (.getfield 180, 3) := by decide +kernel
theorem dX6_depthOf_11 : decode cX6_depthOf 11 = .ok (.getfield 189, 3) := by decide +kernel
theorem dX6_depthOf_14 : decode cX6_depthOf 14 = .ok (.iload_n 1, 1) := by decide +kernel
theorem dX6_depthOf_15 : decode cX6_depthOf 15 = .ok (.iaload, 1) := by decide +kernel
theorem dX6_depthOf_16 : decode cX6_depthOf 16 = .ok (.ireturn, 1) := by decide +kernel
set_option maxRecDepth 20000 in
theorem ggX6_leafSize_X6_requireHash : GoodIn wsX6_leafSize wsX6_requireHash := goodIn_ca (goodIn_r _ [8, 9, 10] (by decide +kernel) (by decide +kernel)) (goodIn_sub (fun _ h => List.mem_cons_of_mem _ (List.mem_append_right _ h)) (by decide +kernel))
set_option maxRecDepth 20000 in
theorem gX6_leafSize_X6_requireHash : GoodIn wsX6_leafSize (va_wsS RX6 174 yX6_requireHash wsX6_requireHash) := goodIn_app (goodIn_of _ (by decide +kernel)) ggX6_leafSize_X6_requireHash
set_option maxRecDepth 20000 in
theorem ggX6_leafSize_X0_countInBranch : GoodIn wsX6_leafSize wsX0_countInBranch := goodIn_r _ [15, 16, 17, 18, 19, 20, 21, 22, 23, 24, 25, 14, 26, 27, 28, 41, 42, 43] (by decide +kernel) (by decide +kernel)
set_option maxRecDepth 20000 in
theorem gX6_leafSize_X0_countInBranch : GoodIn wsX6_leafSize (wsV RX6 177 RX0 yX0_countInBranch wsX0_countInBranch) := goodIn_app (goodIn_of _ (by decide +kernel)) ggX6_leafSize_X0_countInBranch
theorem dX6_leafSize_0 : decode cX6_leafSize 0 = .ok (.iload_n 1, 1) := by decide +kernel
theorem dX6_leafSize_1 : decode cX6_leafSize 1 = .ok (.invokestatic 174, 3) := by decide +kernel
theorem dX6_leafSize_4 : decode cX6_leafSize 4 = .ok (.aload_n 0, 1) := by decide +kernel
theorem dX6_leafSize_5 : decode cX6_leafSize 5 = .ok (.getfield 12, 3) := by decide +kernel
theorem dX6_leafSize_8 : decode cX6_leafSize 8 = .ok (.getfield 63, 3) := by decide +kernel
theorem dX6_leafSize_11 : decode cX6_leafSize 11 = .ok (.iload_n 1, 1) := by decide +kernel
theorem dX6_leafSize_12 : decode cX6_leafSize 12 = .ok (.aload_n 0, 1) := by decide +kernel
theorem dX6_leafSize_13 : decode cX6_leafSize 13 = .ok (.getfield 12, 3) := by decide +kernel
theorem dX6_leafSize_16 : decode cX6_leafSize 16 = .ok (.getfield 180, 3) := by decide +kernel
theorem dX6_leafSize_19 : decode cX6_leafSize 19 = .ok (.getfield 189, 3) := by decide +kernel
theorem dX6_leafSize_22 : decode cX6_leafSize 22 = .ok (.iload_n 1, 1) := by decide +kernel
theorem dX6_leafSize_23 : decode cX6_leafSize 23 = .ok (.iaload, 1) := by decide +kernel
theorem dX6_leafSize_24 : decode cX6_leafSize 24 = .ok (.invokevirtual 177, 3) := by decide +kernel
theorem dX6_leafSize_27 : decode cX6_leafSize 27 = .ok (.ireturn, 1) := by decide +kernel
theorem dX6_splits_0 : decode cX6_splits 0 = .ok (.aload_n 0, 1) := by decide +kernel
theorem dX6_splits_1 : decode cX6_splits 1 = .ok (.getfield 12, 3) := by decide +kernel
theorem dX6_splits_4 : decode cX6_splits 4 = .ok (.getfield 180, 3) := by decide +kernel
theorem dX6_splits_7 : decode cX6_splits 7 = .ok (.getfield 192, 3) := by decide +kernel
theorem dX6_splits_10 : decode cX6_splits 10 = .ok (.ireturn, 1) := by decide +kernel
theorem dX6_merges_0 : decode cX6_merges 0 = .ok (.aload_n 0, 1) := by decide +kernel
theorem dX6_merges_1 : decode cX6_merges 1 = .ok (.getfield 12, 3) := by decide +kernel
theorem dX6_merges_4 : decode cX6_merges 4 = .ok (.getfield 180, 3) := by decide +kernel
theorem dX6_merges_7 : decode cX6_merges 7 = .ok (.getfield 195, 3) := by decide +kernel
theorem dX6_merges_10 : decode cX6_merges 10 = .ok (.ireturn, 1) := by decide +kernel
set_option maxRecDepth 20000 in
theorem ggX6_meanLeafSize_X5_leafCount : GoodIn wsX6_meanLeafSize wsX5_leafCount := goodIn_r _ [9, 10, 11, 12, 8, 13, 26, 27, 28] (by decide +kernel) (by decide +kernel)
set_option maxRecDepth 20000 in
theorem gX6_meanLeafSize_X5_leafCount : GoodIn wsX6_meanLeafSize (wsV RX6 184 RX5 yX5_leafCount wsX5_leafCount) := goodIn_app (goodIn_of _ (by decide +kernel)) ggX6_meanLeafSize_X5_leafCount
theorem dX6_meanLeafSize_0 : decode cX6_meanLeafSize 0 = .ok (.aload_n 0, 1) := by decide +kernel
theorem dX6_meanLeafSize_1 : decode cX6_meanLeafSize 1 = .ok (.getfield 12, 3) := by decide +kernel
theorem dX6_meanLeafSize_4 : decode cX6_meanLeafSize 4 = .ok (.getfield 180, 3) := by decide +kernel
theorem dX6_meanLeafSize_7 : decode cX6_meanLeafSize 7 = .ok (.invokevirtual 184, 3) := by decide +kernel
theorem dX6_meanLeafSize_10 : decode cX6_meanLeafSize 10 = .ok (.istore_n 1, 1) := by decide +kernel
theorem dX6_meanLeafSize_11 : decode cX6_meanLeafSize 11 = .ok (.iload_n 1, 1) := by decide +kernel
theorem dX6_meanLeafSize_12 : decode cX6_meanLeafSize 12 = .ok (.ifCond .le 20, 3) := by decide +kernel
theorem dX6_meanLeafSize_15 : decode cX6_meanLeafSize 15 = .ok (.aload_n 0, 1) := by decide +kernel
theorem dX6_meanLeafSize_16 : decode cX6_meanLeafSize 16 = .ok (.getfield 12, 3) := by decide +kernel
theorem dX6_meanLeafSize_19 : decode cX6_meanLeafSize 19 = .ok (.getfield 63, 3) := by decide +kernel
theorem dX6_meanLeafSize_22 : decode cX6_meanLeafSize 22 = .ok (.getfield 67, 3) := by decide +kernel
theorem dX6_meanLeafSize_25 : decode cX6_meanLeafSize 25 = .ok (.i2f, 1) := by decide +kernel
theorem dX6_meanLeafSize_26 : decode cX6_meanLeafSize 26 = .ok (.iload_n 1, 1) := by decide +kernel
theorem dX6_meanLeafSize_27 : decode cX6_meanLeafSize 27 = .ok (.i2f, 1) := by decide +kernel
theorem dX6_meanLeafSize_28 : decode cX6_meanLeafSize 28 = .ok (.fdiv, 1) := by decide +kernel
theorem dX6_meanLeafSize_29 : decode cX6_meanLeafSize 29 = .ok (.goto 4, 3) := by decide +kernel
theorem dX6_meanLeafSize_32 : decode cX6_meanLeafSize 32 = .ok (.fconst 0, 1) := by decide +kernel
theorem dX6_meanLeafSize_33 : decode cX6_meanLeafSize 33 = .ok (.freturn, 1) := by decide +kernel
set_option maxRecDepth 20000 in
theorem ggX6_leavesIfAdded_X6_nameInText : GoodIn wsX6_leavesIfAdded wsX6_nameInText := goodIn_ca (goodIn_r _ [8, 9, 10, 11, 12, 13, 14, 15, 16, 17, 18, 19, 20, 21, 22, 23, 24, 25, 26, 27, 28, 89, 90, 91, 92, 93, 98, 99] (by decide +kernel) (by decide +kernel)) (goodIn_sub (fun _ h => List.mem_cons_of_mem _ (List.mem_append_left _ (List.mem_append_right _ h))) (by decide +kernel))
set_option maxRecDepth 20000 in
theorem gX6_leavesIfAdded_X6_nameInText : GoodIn wsX6_leavesIfAdded (wsV RX6 38 RX6 yX6_nameInText wsX6_nameInText) := goodIn_app (goodIn_of _ (by decide +kernel)) ggX6_leavesIfAdded_X6_nameInText
set_option maxRecDepth 20000 in
theorem ggX6_leavesIfAdded_X6_requireAddable : GoodIn wsX6_leavesIfAdded wsX6_requireAddable := goodIn_ca (goodIn_r _ [32, 33, 34, 1, 35, 36, 37, 38, 39, 40, 41, 42, 43, 44, 45, 46, 47, 48, 49, 50, 51, 52, 53, 54, 55, 56, 89, 90, 91, 92, 93, 94, 95, 96, 97, 100, 101, 102] (by decide +kernel) (by decide +kernel)) (goodIn_sub (fun _ h => List.mem_cons_of_mem _ (List.mem_append_right _ h)) (by decide +kernel))
set_option maxRecDepth 20000 in
theorem gX6_leavesIfAdded_X6_requireAddable : GoodIn wsX6_leavesIfAdded (wsV RX6 42 RX6 yX6_requireAddable wsX6_requireAddable) := goodIn_app (goodIn_of _ (by decide +kernel)) ggX6_leavesIfAdded_X6_requireAddable
set_option maxRecDepth 20000 in
theorem ggX6_leavesIfAdded_X2_hash : GoodIn wsX6_leavesIfAdded wsX2_hash := goodIn_r _ [59, 60, 61, 21, 62, 26, 27, 28] (by decide +kernel) (by decide +kernel)
set_option maxRecDepth 20000 in
theorem gX6_leavesIfAdded_X2_hash : GoodIn wsX6_leavesIfAdded (va_wsS RX6 159 yX2_hash wsX2_hash) := goodIn_app (goodIn_of _ (by decide +kernel)) ggX6_leavesIfAdded_X2_hash
set_option maxRecDepth 20000 in
theorem ggX6_leavesIfAdded_X5_leafCountIfAdded : GoodIn wsX6_leavesIfAdded wsX5_leafCountIfAdded := goodIn_r _ [67, 68, 69, 70, 71, 44, 72, 73, 74, 66, 75, 76, 77, 78, 79, 80, 81, 82, 46, 83, 84, 85, 86, 87, 88, 103, 104, 105, 100, 101, 102] (by decide +kernel) (by decide +kernel)
set_option maxRecDepth 20000 in
theorem gX6_leavesIfAdded_X5_leafCountIfAdded : GoodIn wsX6_leavesIfAdded (wsV RX6 198 RX5 yX5_leafCountIfAdded wsX5_leafCountIfAdded) := goodIn_app (goodIn_of _ (by decide +kernel)) ggX6_leavesIfAdded_X5_leafCountIfAdded
theorem dX6_leavesIfAdded_0 : decode cX6_leavesIfAdded 0 = .ok (.aload_n 0, 1) := by decide +kernel
theorem dX6_leavesIfAdded_1 : decode cX6_leavesIfAdded 1 = .ok (.invokevirtual 38, 3) := by decide +kernel
theorem dX6_leavesIfAdded_4 : decode cX6_leavesIfAdded 4 = .ok (.istore_n 1, 1) := by decide +kernel
theorem dX6_leavesIfAdded_5 : decode cX6_leavesIfAdded 5 = .ok (.aload_n 0, 1) := by decide +kernel
theorem dX6_leavesIfAdded_6 : decode cX6_leavesIfAdded 6 = .ok (.iload_n 1, 1) := by decide +kernel
theorem dX6_leavesIfAdded_7 : decode cX6_leavesIfAdded 7 = .ok (.invokevirtual 42, 3) := by decide +kernel
theorem dX6_leavesIfAdded_10 : decode cX6_leavesIfAdded 10 = .ok (.aload_n 0, 1) := by decide +kernel
theorem dX6_leavesIfAdded_11 : decode cX6_leavesIfAdded 11 = .ok (.getfield 12, 3) := by decide +kernel
theorem dX6_leavesIfAdded_14 : decode cX6_leavesIfAdded 14 = .ok (.getfield 180, 3) := by decide +kernel
theorem dX6_leavesIfAdded_17 : decode cX6_leavesIfAdded 17 = .ok (.iload_n 1, 1) := by decide +kernel
theorem dX6_leavesIfAdded_18 : decode cX6_leavesIfAdded 18 = .ok (.invokestatic 159, 3) := by decide +kernel
theorem dX6_leavesIfAdded_21 : decode cX6_leavesIfAdded 21 = .ok (.aload_n 0, 1) := by decide +kernel
theorem dX6_leavesIfAdded_22 : decode cX6_leavesIfAdded 22 = .ok (.getfield 12, 3) := by decide +kernel
theorem dX6_leavesIfAdded_25 : decode cX6_leavesIfAdded 25 = .ok (.getfield 63, 3) := by decide +kernel
theorem dX6_leavesIfAdded_28 : decode cX6_leavesIfAdded 28 = .ok (.invokevirtual 198, 3) := by decide +kernel
theorem dX6_leavesIfAdded_31 : decode cX6_leavesIfAdded 31 = .ok (.ireturn, 1) := by decide +kernel
set_option maxRecDepth 20000 in
theorem ggX6_position_X6_requireReader : GoodIn wsX6_position wsX6_requireReader := goodIn_ca (goodIn_r _ [6, 7, 8] (by decide +kernel) (by decide +kernel)) (goodIn_sub (fun _ h => List.mem_cons_of_mem _ (List.mem_append_right _ h)) (by decide +kernel))
set_option maxRecDepth 20000 in
theorem gX6_position_X6_requireReader : GoodIn wsX6_position (va_wsS RX6 84 yX6_requireReader wsX6_requireReader) := goodIn_app (goodIn_of _ (by decide +kernel)) ggX6_position_X6_requireReader
theorem dX6_position_0 : decode cX6_position 0 = .ok (.iload_n 1, 1) := by decide +kernel
theorem dX6_position_1 : decode cX6_position 1 = .ok (.invokestatic 84, 3) := by decide +kernel
theorem dX6_position_4 : decode cX6_position 4 = .ok (.aload_n 0, 1) := by decide +kernel
theorem dX6_position_5 : decode cX6_position 5 = .ok (.getfield 12, 3) := by decide +kernel
theorem dX6_position_8 : decode cX6_position 8 = .ok (.getfield 87, 3) := by decide +kernel
theorem dX6_position_11 : decode cX6_position 11 = .ok (.iload_n 1, 1) := by decide +kernel
theorem dX6_position_12 : decode cX6_position 12 = .ok (.iaload, 1) := by decide +kernel
theorem dX6_position_13 : decode cX6_position 13 = .ok (.ireturn, 1) := by decide +kernel
set_option maxRecDepth 20000 in
theorem ggX6_peek_X6_requireReader : GoodIn wsX6_peek wsX6_requireReader := goodIn_ca (goodIn_r _ [7, 8, 9] (by decide +kernel) (by decide +kernel)) (goodIn_sub (fun _ h => List.mem_cons_of_mem _ (List.mem_append_right _ h)) (by decide +kernel))
set_option maxRecDepth 20000 in
theorem gX6_peek_X6_requireReader : GoodIn wsX6_peek (va_wsS RX6 84 yX6_requireReader wsX6_requireReader) := goodIn_app (goodIn_of _ (by decide +kernel)) ggX6_peek_X6_requireReader
set_option maxRecDepth 20000 in
theorem ggX6_peek_X3_isOpen : GoodIn wsX6_peek wsX3_isOpen := goodIn_r _ [14, 15, 37, 38, 39, 40] (by decide +kernel) (by decide +kernel)
set_option maxRecDepth 20000 in
theorem gX6_peek_X3_isOpen : GoodIn wsX6_peek (wsV RX6 202 RX3 yX3_isOpen wsX3_isOpen) := goodIn_app (goodIn_of _ (by decide +kernel)) ggX6_peek_X3_isOpen
set_option maxRecDepth 20000 in
theorem ggX6_peek_X3_nextPlace : GoodIn wsX6_peek wsX3_nextPlace := goodIn_r _ [19, 20, 15, 21, 22, 23, 24, 25, 26, 27, 37, 38, 39, 40, 41, 42, 43] (by decide +kernel) (by decide +kernel)
set_option maxRecDepth 20000 in
theorem gX6_peek_X3_nextPlace : GoodIn wsX6_peek (wsV RX6 97 RX3 yX3_nextPlace wsX3_nextPlace) := goodIn_app (goodIn_of _ (by decide +kernel)) ggX6_peek_X3_nextPlace
set_option maxRecDepth 20000 in
theorem ggX6_peek_X0_idIn : GoodIn wsX6_peek wsX0_idIn := goodIn_r _ [31, 27, 41, 42, 43] (by decide +kernel) (by decide +kernel)
set_option maxRecDepth 20000 in
theorem gX6_peek_X0_idIn : GoodIn wsX6_peek (wsV RX6 103 RX0 yX0_idIn wsX0_idIn) := goodIn_app (goodIn_of _ (by decide +kernel)) ggX6_peek_X0_idIn
