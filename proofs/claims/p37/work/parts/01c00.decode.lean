theorem dX0_init_0 : decode cX0_init 0 = .ok (.aload_n 0, 1) := by decide +kernel
theorem dX0_init_1 : decode cX0_init 1 = .ok (.invokespecial 3, 3) := by decide +kernel
theorem dX0_init_4 : decode cX0_init 4 = .ok (.aload_n 0, 1) := by decide +kernel
theorem dX0_init_5 : decode cX0_init 5 = .ok (.bipush 40, 2) := by decide +kernel
theorem dX0_init_7 : decode cX0_init 7 = .ok (.newarray .int, 2) := by decide +kernel
theorem dX0_init_9 : decode cX0_init 9 = .ok (.putfield 9, 3) := by decide +kernel
theorem dX0_init_12 : decode cX0_init 12 = .ok (.aload_n 0, 1) := by decide +kernel
theorem dX0_init_13 : decode cX0_init 13 = .ok (.bipush 40, 2) := by decide +kernel
theorem dX0_init_15 : decode cX0_init 15 = .ok (.newarray .int, 2) := by decide +kernel
theorem dX0_init_17 : decode cX0_init 17 = .ok (.putfield 15, 3) := by decide +kernel
theorem dX0_init_20 : decode cX0_init 20 = .ok (.aload_n 0, 1) := by decide +kernel
theorem dX0_init_21 : decode cX0_init 21 = .ok (.iconst 0, 1) := by decide +kernel
theorem dX0_init_22 : decode cX0_init 22 = .ok (.putfield 18, 3) := by decide +kernel
theorem dX0_init_25 : decode cX0_init 25 = .ok (.return_, 1) := by decide +kernel
theorem dX0_copyFrom_0 : decode cX0_copyFrom 0 = .ok (.aload_n 1, 1) := by decide +kernel
theorem dX0_copyFrom_1 : decode cX0_copyFrom 1 = .ok (.getfield 9, 3) := by decide +kernel
theorem dX0_copyFrom_4 : decode cX0_copyFrom 4 = .ok (.iconst 0, 1) := by decide +kernel
theorem dX0_copyFrom_5 : decode cX0_copyFrom 5 = .ok (.aload_n 0, 1) := by decide +kernel
theorem dX0_copyFrom_6 : decode cX0_copyFrom 6 = .ok (.getfield 9, 3) := by decide +kernel
theorem dX0_copyFrom_9 : decode cX0_copyFrom 9 = .ok (.iconst 0, 1) := by decide +kernel
theorem dX0_copyFrom_10 : decode cX0_copyFrom 10 = .ok (.bipush 40, 2) := by decide +kernel
theorem dX0_copyFrom_12 : decode cX0_copyFrom 12 = .ok (.invokestatic 22, 3) := by decide +kernel
theorem dX0_copyFrom_15 : decode cX0_copyFrom 15 = .ok (.aload_n 1, 1) := by decide +kernel
theorem dX0_copyFrom_16 : decode cX0_copyFrom 16 = .ok (.getfield 15, 3) := by decide +kernel
theorem dX0_copyFrom_19 : decode cX0_copyFrom 19 = .ok (.iconst 0, 1) := by decide +kernel
theorem dX0_copyFrom_20 : decode cX0_copyFrom 20 = .ok (.aload_n 0, 1) := by decide +kernel
theorem dX0_copyFrom_21 : decode cX0_copyFrom 21 = .ok (.getfield 15, 3) := by decide +kernel
theorem dX0_copyFrom_24 : decode cX0_copyFrom 24 = .ok (.iconst 0, 1) := by decide +kernel
theorem dX0_copyFrom_25 : decode cX0_copyFrom 25 = .ok (.bipush 40, 2) := by decide +kernel
theorem dX0_copyFrom_27 : decode cX0_copyFrom 27 = .ok (.invokestatic 22, 3) := by decide +kernel
theorem dX0_copyFrom_30 : decode cX0_copyFrom 30 = .ok (.aload_n 0, 1) := by decide +kernel
theorem dX0_copyFrom_31 : decode cX0_copyFrom 31 = .ok (.aload_n 1, 1) := by decide +kernel
theorem dX0_copyFrom_32 : decode cX0_copyFrom 32 = .ok (.getfield 18, 3) := by decide +kernel
theorem dX0_copyFrom_35 : decode cX0_copyFrom 35 = .ok (.putfield 18, 3) := by decide +kernel
theorem dX0_copyFrom_38 : decode cX0_copyFrom 38 = .ok (.return_, 1) := by decide +kernel
theorem dX0_isFull_0 : decode cX0_isFull 0 = .ok (.aload_n 0, 1) := by decide +kernel
theorem dX0_isFull_1 : decode cX0_isFull 1 = .ok (.getfield 18, 3) := by decide +kernel
theorem dX0_isFull_4 : decode cX0_isFull 4 = .ok (.bipush 40, 2) := by decide +kernel
theorem dX0_isFull_6 : decode cX0_isFull 6 = .ok (.if_icmp .lt 7, 3) := by decide +kernel
theorem dX0_isFull_9 : decode cX0_isFull 9 = .ok (.iconst 1, 1) := by decide +kernel
theorem dX0_isFull_10 : decode cX0_isFull 10 = .ok (.goto 4, 3) := by decide +kernel
theorem dX0_isFull_13 : decode cX0_isFull 13 = .ok (.iconst 0, 1) := by decide +kernel
theorem dX0_isFull_14 : decode cX0_isFull 14 = .ok (.ireturn, 1) := by decide +kernel
theorem dX0_idIn_0 : decode cX0_idIn 0 = .ok (.aload_n 0, 1) := by decide +kernel
theorem dX0_idIn_1 : decode cX0_idIn 1 = .ok (.getfield 9, 3) := by decide +kernel
theorem dX0_idIn_4 : decode cX0_idIn 4 = .ok (.iload_n 1, 1) := by decide +kernel
theorem dX0_idIn_5 : decode cX0_idIn 5 = .ok (.iaload, 1) := by decide +kernel
theorem dX0_idIn_6 : decode cX0_idIn 6 = .ok (.sipush 1000, 3) := by decide +kernel
theorem dX0_idIn_9 : decode cX0_idIn 9 = .ok (.irem, 1) := by decide +kernel
theorem dX0_idIn_10 : decode cX0_idIn 10 = .ok (.ireturn, 1) := by decide +kernel
theorem dX0_hashIn_0 : decode cX0_hashIn 0 = .ok (.aload_n 0, 1) := by decide +kernel
theorem dX0_hashIn_1 : decode cX0_hashIn 1 = .ok (.getfield 9, 3) := by decide +kernel
theorem dX0_hashIn_4 : decode cX0_hashIn 4 = .ok (.iload_n 1, 1) := by decide +kernel
theorem dX0_hashIn_5 : decode cX0_hashIn 5 = .ok (.iaload, 1) := by decide +kernel
theorem dX0_hashIn_6 : decode cX0_hashIn 6 = .ok (.sipush 1000, 3) := by decide +kernel
theorem dX0_hashIn_9 : decode cX0_hashIn 9 = .ok (.idiv, 1) := by decide +kernel
theorem dX0_hashIn_10 : decode cX0_hashIn 10 = .ok (.ireturn, 1) := by decide +kernel
set_option maxRecDepth 20000 in
theorem ggX0_placeOfId_X0_idIn : GoodIn wsX0_placeOfId wsX0_idIn := goodIn_r _ [6, 7, 8, 9, 10] (by decide +kernel) (by decide +kernel)
set_option maxRecDepth 20000 in
theorem gX0_placeOfId_X0_idIn : GoodIn wsX0_placeOfId (wsV RX0 28 RX0 yX0_idIn wsX0_idIn) := goodIn_app (goodIn_of _ (by decide +kernel)) ggX0_placeOfId_X0_idIn
theorem dX0_placeOfId_0 : decode cX0_placeOfId 0 = .ok (.iconst 0, 1) := by decide +kernel
theorem dX0_placeOfId_1 : decode cX0_placeOfId 1 = .ok (.istore_n 2, 1) := by decide +kernel
theorem dX0_placeOfId_2 : decode cX0_placeOfId 2 = .ok (.iload_n 2, 1) := by decide +kernel
theorem dX0_placeOfId_3 : decode cX0_placeOfId 3 = .ok (.aload_n 0, 1) := by decide +kernel
theorem dX0_placeOfId_4 : decode cX0_placeOfId 4 = .ok (.getfield 18, 3) := by decide +kernel
theorem dX0_placeOfId_7 : decode cX0_placeOfId 7 = .ok (.if_icmp .ge 20, 3) := by decide +kernel
theorem dX0_placeOfId_10 : decode cX0_placeOfId 10 = .ok (.aload_n 0, 1) := by decide +kernel
theorem dX0_placeOfId_11 : decode cX0_placeOfId 11 = .ok (.iload_n 2, 1) := by decide +kernel
theorem dX0_placeOfId_12 : decode cX0_placeOfId 12 = .ok (.invokevirtual 28, 3) := by decide +kernel
theorem dX0_placeOfId_15 : decode cX0_placeOfId 15 = .ok (.iload_n 1, 1) := by decide +kernel
theorem dX0_placeOfId_16 : decode cX0_placeOfId 16 = .ok (.if_icmp .ne 5, 3) := by decide +kernel
theorem dX0_placeOfId_19 : decode cX0_placeOfId 19 = .ok (.iload_n 2, 1) := by decide +kernel
theorem dX0_placeOfId_20 : decode cX0_placeOfId 20 = .ok (.ireturn, 1) := by decide +kernel
theorem dX0_placeOfId_21 : decode cX0_placeOfId 21 = .ok (.iinc 2 1, 3) := by decide +kernel
theorem dX0_placeOfId_24 : decode cX0_placeOfId 24 = .ok (.goto (-22), 3) := by decide +kernel
theorem dX0_placeOfId_27 : decode cX0_placeOfId 27 = .ok (.iconst (-1), 1) := by decide +kernel
theorem dX0_placeOfId_28 : decode cX0_placeOfId 28 = .ok (.ireturn, 1) := by decide +kernel
theorem dX0_placeOfName_0 : decode cX0_placeOfName 0 = .ok (.iconst 0, 1) := by decide +kernel
theorem dX0_placeOfName_1 : decode cX0_placeOfName 1 = .ok (.istore_n 2, 1) := by decide +kernel
theorem dX0_placeOfName_2 : decode cX0_placeOfName 2 = .ok (.iload_n 2, 1) := by decide +kernel
theorem dX0_placeOfName_3 : decode cX0_placeOfName 3 = .ok (.aload_n 0, 1) := by decide +kernel
theorem dX0_placeOfName_4 : decode cX0_placeOfName 4 = .ok (.getfield 18, 3) := by decide +kernel
theorem dX0_placeOfName_7 : decode cX0_placeOfName 7 = .ok (.if_icmp .ge 21, 3) := by decide +kernel
theorem dX0_placeOfName_10 : decode cX0_placeOfName 10 = .ok (.aload_n 0, 1) := by decide +kernel
theorem dX0_placeOfName_11 : decode cX0_placeOfName 11 = .ok (.getfield 15, 3) := by decide +kernel
theorem dX0_placeOfName_14 : decode cX0_placeOfName 14 = .ok (.iload_n 2, 1) := by decide +kernel
theorem dX0_placeOfName_15 : decode cX0_placeOfName 15 = .ok (.iaload, 1) := by decide +kernel
theorem dX0_placeOfName_16 : decode cX0_placeOfName 16 = .ok (.iload_n 1, 1) := by decide +kernel
theorem dX0_placeOfName_17 : decode cX0_placeOfName 17 = .ok (.if_icmp .ne 5, 3) := by decide +kernel
theorem dX0_placeOfName_20 : decode cX0_placeOfName 20 = .ok (.iload_n 2, 1) := by decide +kernel
theorem dX0_placeOfName_21 : decode cX0_placeOfName 21 = .ok (.ireturn, 1) := by decide +kernel
theorem dX0_placeOfName_22 : decode cX0_placeOfName 22 = .ok (.iinc 2 1, 3) := by decide +kernel
theorem dX0_placeOfName_25 : decode cX0_placeOfName 25 = .ok (.goto (-23), 3) := by decide +kernel
theorem dX0_placeOfName_28 : decode cX0_placeOfName 28 = .ok (.iconst (-1), 1) := by decide +kernel
theorem dX0_placeOfName_29 : decode cX0_placeOfName 29 = .ok (.ireturn, 1) := by decide +kernel
theorem dX0_placeAfter_0 : decode cX0_placeAfter 0 = .ok (.iconst 0, 1) := by decide +kernel
theorem dX0_placeAfter_1 : decode cX0_placeAfter 1 = .ok (.istore_n 2, 1) := by decide +kernel
theorem dX0_placeAfter_2 : decode cX0_placeAfter 2 = .ok (.iload_n 2, 1) := by decide +kernel
theorem dX0_placeAfter_3 : decode cX0_placeAfter 3 = .ok (.aload_n 0, 1) := by decide +kernel
theorem dX0_placeAfter_4 : decode cX0_placeAfter 4 = .ok (.getfield 18, 3) := by decide +kernel
theorem dX0_placeAfter_7 : decode cX0_placeAfter 7 = .ok (.if_icmp .ge 19, 3) := by decide +kernel
theorem dX0_placeAfter_10 : decode cX0_placeAfter 10 = .ok (.aload_n 0, 1) := by decide +kernel
theorem dX0_placeAfter_11 : decode cX0_placeAfter 11 = .ok (.getfield 9, 3) := by decide +kernel
theorem dX0_placeAfter_14 : decode cX0_placeAfter 14 = .ok (.iload_n 2, 1) := by decide +kernel
theorem dX0_placeAfter_15 : decode cX0_placeAfter 15 = .ok (.iaload, 1) := by decide +kernel
theorem dX0_placeAfter_16 : decode cX0_placeAfter 16 = .ok (.iload_n 1, 1) := by decide +kernel
theorem dX0_placeAfter_17 : decode cX0_placeAfter 17 = .ok (.if_icmp .gt 9, 3) := by decide +kernel
theorem dX0_placeAfter_20 : decode cX0_placeAfter 20 = .ok (.iinc 2 1, 3) := by decide +kernel
theorem dX0_placeAfter_23 : decode cX0_placeAfter 23 = .ok (.goto (-21), 3) := by decide +kernel
theorem dX0_placeAfter_26 : decode cX0_placeAfter 26 = .ok (.iload_n 2, 1) := by decide +kernel
theorem dX0_placeAfter_27 : decode cX0_placeAfter 27 = .ok (.ireturn, 1) := by decide +kernel
set_option maxRecDepth 20000 in
theorem ggX0_countInBranch_X5_firstHash : GoodIn wsX0_countInBranch wsX5_firstHash := goodIn_r _ [4] (by decide +kernel) (by decide +kernel)
set_option maxRecDepth 20000 in
theorem gX0_countInBranch_X5_firstHash : GoodIn wsX0_countInBranch (va_wsS RX0 32 yX5_firstHash wsX5_firstHash) := goodIn_app (goodIn_of _ (by decide +kernel)) ggX0_countInBranch_X5_firstHash
set_option maxRecDepth 20000 in
theorem ggX0_countInBranch_X5_lastHash : GoodIn wsX0_countInBranch wsX5_lastHash := goodIn_r _ [7] (by decide +kernel) (by decide +kernel)
set_option maxRecDepth 20000 in
theorem gX0_countInBranch_X5_lastHash : GoodIn wsX0_countInBranch (va_wsS RX0 38 yX5_lastHash wsX5_lastHash) := goodIn_app (goodIn_of _ (by decide +kernel)) ggX0_countInBranch_X5_lastHash
set_option maxRecDepth 20000 in
theorem ggX0_countInBranch_X0_placeAfter : GoodIn wsX0_countInBranch wsX0_placeAfter := goodIn_r _ [12, 13, 14, 15, 16, 17] (by decide +kernel) (by decide +kernel)
set_option maxRecDepth 20000 in
theorem gX0_countInBranch_X0_placeAfter : GoodIn wsX0_countInBranch (wsV RX0 41 RX0 yX0_placeAfter wsX0_placeAfter) := goodIn_app (goodIn_of _ (by decide +kernel)) ggX0_countInBranch_X0_placeAfter
theorem dX0_countInBranch_0 : decode cX0_countInBranch 0 = .ok (.iload_n 1, 1) := by decide +kernel
theorem dX0_countInBranch_1 : decode cX0_countInBranch 1 = .ok (.iload_n 2, 1) := by decide +kernel
theorem dX0_countInBranch_2 : decode cX0_countInBranch 2 = .ok (.invokestatic 32, 3) := by decide +kernel
theorem dX0_countInBranch_5 : decode cX0_countInBranch 5 = .ok (.sipush 1000, 3) := by decide +kernel
theorem dX0_countInBranch_8 : decode cX0_countInBranch 8 = .ok (.imul, 1) := by decide +kernel
theorem dX0_countInBranch_9 : decode cX0_countInBranch 9 = .ok (.iconst 1, 1) := by decide +kernel
theorem dX0_countInBranch_10 : decode cX0_countInBranch 10 = .ok (.isub, 1) := by decide +kernel
theorem dX0_countInBranch_11 : decode cX0_countInBranch 11 = .ok (.istore_n 3, 1) := by decide +kernel
theorem dX0_countInBranch_12 : decode cX0_countInBranch 12 = .ok (.iload_n 1, 1) := by decide +kernel
theorem dX0_countInBranch_13 : decode cX0_countInBranch 13 = .ok (.iload_n 2, 1) := by decide +kernel
theorem dX0_countInBranch_14 : decode cX0_countInBranch 14 = .ok (.invokestatic 38, 3) := by decide +kernel
theorem dX0_countInBranch_17 : decode cX0_countInBranch 17 = .ok (.sipush 1000, 3) := by decide +kernel
theorem dX0_countInBranch_20 : decode cX0_countInBranch 20 = .ok (.imul, 1) := by decide +kernel
theorem dX0_countInBranch_21 : decode cX0_countInBranch 21 = .ok (.sipush 1000, 3) := by decide +kernel
theorem dX0_countInBranch_24 : decode cX0_countInBranch 24 = .ok (.iadd, 1) := by decide +kernel
theorem dX0_countInBranch_25 : decode cX0_countInBranch 25 = .ok (.iconst 1, 1) := by decide +kernel
theorem dX0_countInBranch_26 : decode cX0_countInBranch 26 = .ok (.isub, 1) := by decide +kernel
theorem dX0_countInBranch_27 : decode cX0_countInBranch 27 = .ok (.istore 4, 2) := by decide +kernel
theorem dX0_countInBranch_29 : decode cX0_countInBranch 29 = .ok (.aload_n 0, 1) := by decide +kernel
theorem dX0_countInBranch_30 : decode cX0_countInBranch 30 = .ok (.iload 4, 2) := by decide +kernel
theorem dX0_countInBranch_32 : decode cX0_countInBranch 32 = .ok (.invokevirtual 41, 3) := by decide +kernel
theorem dX0_countInBranch_35 : decode cX0_countInBranch 35 = .ok (.aload_n 0, 1) := by decide +kernel
theorem dX0_countInBranch_36 : decode cX0_countInBranch 36 = .ok (.iload_n 3, 1) := by decide +kernel
theorem dX0_countInBranch_37 : decode cX0_countInBranch 37 = .ok (.invokevirtual 41, 3) := by decide +kernel
theorem dX0_countInBranch_40 : decode cX0_countInBranch 40 = .ok (.isub, 1) := by decide +kernel
theorem dX0_countInBranch_41 : decode cX0_countInBranch 41 = .ok (.ireturn, 1) := by decide +kernel
set_option maxRecDepth 20000 in
theorem ggX0_insert_X0_placeAfter : GoodIn wsX0_insert wsX0_placeAfter := goodIn_r _ [8, 1, 2, 9, 10, 11] (by decide +kernel) (by decide +kernel)
set_option maxRecDepth 20000 in
theorem gX0_insert_X0_placeAfter : GoodIn wsX0_insert (wsV RX0 41 RX0 yX0_placeAfter wsX0_placeAfter) := goodIn_app (goodIn_of _ (by decide +kernel)) ggX0_insert_X0_placeAfter
theorem dX0_insert_0 : decode cX0_insert 0 = .ok (.aload_n 0, 1) := by decide +kernel
theorem dX0_insert_1 : decode cX0_insert 1 = .ok (.iload_n 1, 1) := by decide +kernel
theorem dX0_insert_2 : decode cX0_insert 2 = .ok (.invokevirtual 41, 3) := by decide +kernel
theorem dX0_insert_5 : decode cX0_insert 5 = .ok (.istore_n 3, 1) := by decide +kernel
theorem dX0_insert_6 : decode cX0_insert 6 = .ok (.aload_n 0, 1) := by decide +kernel
theorem dX0_insert_7 : decode cX0_insert 7 = .ok (.getfield 18, 3) := by decide +kernel
theorem dX0_insert_10 : decode cX0_insert 10 = .ok (.istore 4, 2) := by decide +kernel
theorem dX0_insert_12 : decode cX0_insert 12 = .ok (.iload 4, 2) := by decide +kernel
theorem dX0_insert_14 : decode cX0_insert 14 = .ok (.iload_n 3, 1) := by decide +kernel
theorem dX0_insert_15 : decode cX0_insert 15 = .ok (.if_icmp .le 41, 3) := by decide +kernel
theorem dX0_insert_18 : decode cX0_insert 18 = .ok (.aload_n 0, 1) := by decide +kernel
theorem dX0_insert_19 : decode cX0_insert 19 = .ok (.getfield 9, 3) := by decide +kernel
theorem dX0_insert_22 : decode cX0_insert 22 = .ok (.iload 4, 2) := by decide +kernel
theorem dX0_insert_24 : decode cX0_insert 24 = .ok (.aload_n 0, 1) := by decide +kernel
theorem dX0_insert_25 : decode cX0_insert 25 = .ok (.getfield 9, 3) := by decide +kernel
theorem dX0_insert_28 : decode cX0_insert 28 = .ok (.iload 4, 2) := by decide +kernel
theorem dX0_insert_30 : decode cX0_insert 30 = .ok (.iconst 1, 1) := by decide +kernel
theorem dX0_insert_31 : decode cX0_insert 31 = .ok (.isub, 1) := by decide +kernel
theorem dX0_insert_32 : decode cX0_insert 32 = .ok (.iaload, 1) := by decide +kernel
theorem dX0_insert_33 : decode cX0_insert 33 = .ok (.iastore, 1) := by decide +kernel
theorem dX0_insert_34 : decode cX0_insert 34 = .ok (.aload_n 0, 1) := by decide +kernel
theorem dX0_insert_35 : decode cX0_insert 35 = .ok (.getfield 15, 3) := by decide +kernel
theorem dX0_insert_38 : decode cX0_insert 38 = .ok (.iload 4, 2) := by decide +kernel
theorem dX0_insert_40 : decode cX0_insert 40 = .ok (.aload_n 0, 1) := by decide +kernel
theorem dX0_insert_41 : decode cX0_insert 41 = .ok (.getfield 15, 3) := by decide +kernel
theorem dX0_insert_44 : decode cX0_insert 44 = .ok (.iload 4, 2) := by decide +kernel
theorem dX0_insert_46 : decode cX0_insert 46 = .ok (.iconst 1, 1) := by decide +kernel
theorem dX0_insert_47 : decode cX0_insert 47 = .ok (.isub, 1) := by decide +kernel
theorem dX0_insert_48 : decode cX0_insert 48 = .ok (.iaload, 1) := by decide +kernel
theorem dX0_insert_49 : decode cX0_insert 49 = .ok (.iastore, 1) := by decide +kernel
theorem dX0_insert_50 : decode cX0_insert 50 = .ok (.iinc 4 (-1), 3) := by decide +kernel
theorem dX0_insert_53 : decode cX0_insert 53 = .ok (.goto (-41), 3) := by decide +kernel
theorem dX0_insert_56 : decode cX0_insert 56 = .ok (.aload_n 0, 1) := by decide +kernel
theorem dX0_insert_57 : decode cX0_insert 57 = .ok (.getfield 9, 3) := by decide +kernel
theorem dX0_insert_60 : decode cX0_insert 60 = .ok (.iload_n 3, 1) := by decide +kernel
theorem dX0_insert_61 : decode cX0_insert 61 = .ok (.iload_n 1, 1) := by decide +kernel
theorem dX0_insert_62 : decode cX0_insert 62 = .ok (.iastore, 1) := by decide +kernel
theorem dX0_insert_63 : decode cX0_insert 63 = .ok (.aload_n 0, 1) := by decide +kernel
theorem dX0_insert_64 : decode cX0_insert 64 = .ok (.getfield 15, 3) := by decide +kernel
theorem dX0_insert_67 : decode cX0_insert 67 = .ok (.iload_n 3, 1) := by decide +kernel
theorem dX0_insert_68 : decode cX0_insert 68 = .ok (.iload_n 2, 1) := by decide +kernel
theorem dX0_insert_69 : decode cX0_insert 69 = .ok (.iastore, 1) := by decide +kernel
theorem dX0_insert_70 : decode cX0_insert 70 = .ok (.aload_n 0, 1) := by decide +kernel
theorem dX0_insert_71 : decode cX0_insert 71 = .ok (.dup, 1) := by decide +kernel
theorem dX0_insert_72 : decode cX0_insert 72 = .ok (.getfield 18, 3) := by decide +kernel
theorem dX0_insert_75 : decode cX0_insert 75 = .ok (.iconst 1, 1) := by decide +kernel
theorem dX0_insert_76 : decode cX0_insert 76 = .ok (.iadd, 1) := by decide +kernel
theorem dX0_insert_77 : decode cX0_insert 77 = .ok (.putfield 18, 3) := by decide +kernel
theorem dX0_insert_80 : decode cX0_insert 80 = .ok (.return_, 1) := by decide +kernel
theorem dX0_takeOut_0 : decode cX0_takeOut 0 = .ok (.aload_n 0, 1) := by decide +kernel
theorem dX0_takeOut_1 : decode cX0_takeOut 1 = .ok (.dup, 1) := by decide +kernel
theorem dX0_takeOut_2 : decode cX0_takeOut 2 = .ok (.getfield 18, 3) := by decide +kernel
theorem dX0_takeOut_5 : decode cX0_takeOut 5 = .ok (.iconst 1, 1) := by decide +kernel
theorem dX0_takeOut_6 : decode cX0_takeOut 6 = .ok (.isub, 1) := by decide +kernel
theorem dX0_takeOut_7 : decode cX0_takeOut 7 = .ok (.putfield 18, 3) := by decide +kernel
theorem dX0_takeOut_10 : decode cX0_takeOut 10 = .ok (.iload_n 1, 1) := by decide +kernel
theorem dX0_takeOut_11 : decode cX0_takeOut 11 = .ok (.istore_n 2, 1) := by decide +kernel
theorem dX0_takeOut_12 : decode cX0_takeOut 12 = .ok (.iload_n 2, 1) := by decide +kernel
theorem dX0_takeOut_13 : decode cX0_takeOut 13 = .ok (.aload_n 0, 1) := by decide +kernel
theorem dX0_takeOut_14 : decode cX0_takeOut 14 = .ok (.getfield 18, 3) := by decide +kernel
theorem dX0_takeOut_17 : decode cX0_takeOut 17 = .ok (.if_icmp .ge 37, 3) := by decide +kernel
theorem dX0_takeOut_20 : decode cX0_takeOut 20 = .ok (.aload_n 0, 1) := by decide +kernel
theorem dX0_takeOut_21 : decode cX0_takeOut 21 = .ok (.getfield 9, 3) := by decide +kernel
theorem dX0_takeOut_24 : decode cX0_takeOut 24 = .ok (.iload_n 2, 1) := by decide +kernel
theorem dX0_takeOut_25 : decode cX0_takeOut 25 = .ok (.aload_n 0, 1) := by decide +kernel
theorem dX0_takeOut_26 : decode cX0_takeOut 26 = .ok (.getfield 9, 3) := by decide +kernel
theorem dX0_takeOut_29 : decode cX0_takeOut 29 = .ok (.iload_n 2, 1) := by decide +kernel
theorem dX0_takeOut_30 : decode cX0_takeOut 30 = .ok (.iconst 1, 1) := by decide +kernel
theorem dX0_takeOut_31 : decode cX0_takeOut 31 = .ok (.iadd, 1) := by decide +kernel
theorem dX0_takeOut_32 : decode cX0_takeOut 32 = .ok (.iaload, 1) := by decide +kernel
theorem dX0_takeOut_33 : decode cX0_takeOut 33 = .ok (.iastore, 1) := by decide +kernel
theorem dX0_takeOut_34 : decode cX0_takeOut 34 = .ok (.aload_n 0, 1) := by decide +kernel
theorem dX0_takeOut_35 : decode cX0_takeOut 35 = .ok (.getfield 15, 3) := by decide +kernel
theorem dX0_takeOut_38 : decode cX0_takeOut 38 = .ok (.iload_n 2, 1) := by decide +kernel
theorem dX0_takeOut_39 : decode cX0_takeOut 39 = .ok (.aload_n 0, 1) := by decide +kernel
theorem dX0_takeOut_40 : decode cX0_takeOut 40 = .ok (.getfield 15, 3) := by decide +kernel
theorem dX0_takeOut_43 : decode cX0_takeOut 43 = .ok (.iload_n 2, 1) := by decide +kernel
theorem dX0_takeOut_44 : decode cX0_takeOut 44 = .ok (.iconst 1, 1) := by decide +kernel
theorem dX0_takeOut_45 : decode cX0_takeOut 45 = .ok (.iadd, 1) := by decide +kernel
theorem dX0_takeOut_46 : decode cX0_takeOut 46 = .ok (.iaload, 1) := by decide +kernel
theorem dX0_takeOut_47 : decode cX0_takeOut 47 = .ok (.iastore, 1) := by decide +kernel
theorem dX0_takeOut_48 : decode cX0_takeOut 48 = .ok (.iinc 2 1, 3) := by decide +kernel
theorem dX0_takeOut_51 : decode cX0_takeOut 51 = .ok (.goto (-39), 3) := by decide +kernel
theorem dX0_takeOut_54 : decode cX0_takeOut 54 = .ok (.return_, 1) := by decide +kernel
set_option maxRecDepth 20000 in
theorem ggX1_init_X3_init : GoodIn wsX1_init wsX3_init := goodIn_r _ [12, 13, 2, 3, 14, 15, 16, 17, 18, 19, 20, 21, 22, 23, 24, 25, 26, 27, 28, 29, 30, 31, 32, 33, 34, 35, 36, 44, 45, 46, 40, 41, 42, 43, 47, 48, 49] (by decide +kernel) (by decide +kernel)
set_option maxRecDepth 20000 in
theorem gX1_init_X3_init : GoodIn wsX1_init (wsX3_init) := ggX1_init_X3_init
theorem dX1_init_0 : decode cX1_init 0 = .ok (.aload_n 0, 1) := by decide +kernel
theorem dX1_init_1 : decode cX1_init 1 = .ok (.invokespecial 3, 3) := by decide +kernel
theorem dX1_init_4 : decode cX1_init 4 = .ok (.aload_n 0, 1) := by decide +kernel
theorem dX1_init_5 : decode cX1_init 5 = .ok (.bipush 6, 2) := by decide +kernel
theorem dX1_init_7 : decode cX1_init 7 = .ok (.anewarray 9, 3) := by decide +kernel
theorem dX1_init_10 : decode cX1_init 10 = .ok (.putfield 11, 3) := by decide +kernel
theorem dX1_init_13 : decode cX1_init 13 = .ok (.aload_n 0, 1) := by decide +kernel
theorem dX1_init_14 : decode cX1_init 14 = .ok (.iconst 0, 1) := by decide +kernel
theorem dX1_init_15 : decode cX1_init 15 = .ok (.putfield 17, 3) := by decide +kernel
theorem dX1_init_18 : decode cX1_init 18 = .ok (.aload_n 0, 1) := by decide +kernel
theorem dX1_init_19 : decode cX1_init 19 = .ok (.iconst 0, 1) := by decide +kernel
theorem dX1_init_20 : decode cX1_init 20 = .ok (.putfield 21, 3) := by decide +kernel
theorem dX1_init_23 : decode cX1_init 23 = .ok (.iconst 0, 1) := by decide +kernel
theorem dX1_init_24 : decode cX1_init 24 = .ok (.istore_n 1, 1) := by decide +kernel
theorem dX1_init_25 : decode cX1_init 25 = .ok (.iload_n 1, 1) := by decide +kernel
theorem dX1_init_26 : decode cX1_init 26 = .ok (.bipush 6, 2) := by decide +kernel
theorem dX1_init_28 : decode cX1_init 28 = .ok (.if_icmp .ge 22, 3) := by decide +kernel
theorem dX1_init_31 : decode cX1_init 31 = .ok (.aload_n 0, 1) := by decide +kernel
theorem dX1_init_32 : decode cX1_init 32 = .ok (.getfield 11, 3) := by decide +kernel
theorem dX1_init_35 : decode cX1_init 35 = .ok (.iload_n 1, 1) := by decide +kernel
theorem dX1_init_36 : decode cX1_init 36 = .ok (.new 9, 3) := by decide +kernel
theorem dX1_init_39 : decode cX1_init 39 = .ok (.dup, 1) := by decide +kernel
theorem dX1_init_40 : decode cX1_init 40 = .ok (.invokespecial 24, 3) := by decide +kernel
theorem dX1_init_43 : decode cX1_init 43 = .ok (.aastore, 1) := by decide +kernel
theorem dX1_init_44 : decode cX1_init 44 = .ok (.iinc 1 1, 3) := by decide +kernel
theorem dX1_init_47 : decode cX1_init 47 = .ok (.goto (-22), 3) := by decide +kernel
theorem dX1_init_50 : decode cX1_init 50 = .ok (.return_, 1) := by decide +kernel
set_option maxRecDepth 20000 in
theorem ggX1_push_X3_copyFrom : GoodIn wsX1_push wsX3_copyFrom := goodIn_r _ [8, 9, 10, 11, 12, 13, 14, 15, 16, 17, 18, 19, 20, 21, 22, 23, 24, 25, 26, 27, 28, 29, 30, 31, 32, 33, 34, 38, 39, 40, 41, 42, 43, 44, 45, 46, 47] (by decide +kernel) (by decide +kernel)
set_option maxRecDepth 20000 in
theorem gX1_push_X3_copyFrom : GoodIn wsX1_push (wsV RX1 25 RX3 yX3_copyFrom wsX3_copyFrom) := goodIn_app (goodIn_of _ (by decide +kernel)) ggX1_push_X3_copyFrom
theorem dX1_push_0 : decode cX1_push 0 = .ok (.aload_n 0, 1) := by decide +kernel
theorem dX1_push_1 : decode cX1_push 1 = .ok (.getfield 21, 3) := by decide +kernel
theorem dX1_push_4 : decode cX1_push 4 = .ok (.bipush 6, 2) := by decide +kernel
theorem dX1_push_6 : decode cX1_push 6 = .ok (.if_icmp .ne 26, 3) := by decide +kernel
theorem dX1_push_9 : decode cX1_push 9 = .ok (.aload_n 0, 1) := by decide +kernel
theorem dX1_push_10 : decode cX1_push 10 = .ok (.aload_n 0, 1) := by decide +kernel
theorem dX1_push_11 : decode cX1_push 11 = .ok (.getfield 17, 3) := by decide +kernel
theorem dX1_push_14 : decode cX1_push 14 = .ok (.iconst 1, 1) := by decide +kernel
theorem dX1_push_15 : decode cX1_push 15 = .ok (.iadd, 1) := by decide +kernel
theorem dX1_push_16 : decode cX1_push 16 = .ok (.bipush 6, 2) := by decide +kernel
theorem dX1_push_18 : decode cX1_push 18 = .ok (.irem, 1) := by decide +kernel
theorem dX1_push_19 : decode cX1_push 19 = .ok (.putfield 17, 3) := by decide +kernel
theorem dX1_push_22 : decode cX1_push 22 = .ok (.aload_n 0, 1) := by decide +kernel
theorem dX1_push_23 : decode cX1_push 23 = .ok (.dup, 1) := by decide +kernel
theorem dX1_push_24 : decode cX1_push 24 = .ok (.getfield 21, 3) := by decide +kernel
theorem dX1_push_27 : decode cX1_push 27 = .ok (.iconst 1, 1) := by decide +kernel
theorem dX1_push_28 : decode cX1_push 28 = .ok (.isub, 1) := by decide +kernel
theorem dX1_push_29 : decode cX1_push 29 = .ok (.putfield 21, 3) := by decide +kernel
theorem dX1_push_32 : decode cX1_push 32 = .ok (.aload_n 0, 1) := by decide +kernel
theorem dX1_push_33 : decode cX1_push 33 = .ok (.getfield 11, 3) := by decide +kernel
theorem dX1_push_36 : decode cX1_push 36 = .ok (.aload_n 0, 1) := by decide +kernel
theorem dX1_push_37 : decode cX1_push 37 = .ok (.getfield 17, 3) := by decide +kernel
theorem dX1_push_40 : decode cX1_push 40 = .ok (.aload_n 0, 1) := by decide +kernel
theorem dX1_push_41 : decode cX1_push 41 = .ok (.getfield 21, 3) := by decide +kernel
theorem dX1_push_44 : decode cX1_push 44 = .ok (.iadd, 1) := by decide +kernel
theorem dX1_push_45 : decode cX1_push 45 = .ok (.bipush 6, 2) := by decide +kernel
theorem dX1_push_47 : decode cX1_push 47 = .ok (.irem, 1) := by decide +kernel
theorem dX1_push_48 : decode cX1_push 48 = .ok (.aaload, 1) := by decide +kernel
theorem dX1_push_49 : decode cX1_push 49 = .ok (.aload_n 1, 1) := by decide +kernel
theorem dX1_push_50 : decode cX1_push 50 = .ok (.invokevirtual 25, 3) := by decide +kernel
theorem dX1_push_53 : decode cX1_push 53 = .ok (.aload_n 0, 1) := by decide +kernel
theorem dX1_push_54 : decode cX1_push 54 = .ok (.dup, 1) := by decide +kernel
theorem dX1_push_55 : decode cX1_push 55 = .ok (.getfield 21, 3) := by decide +kernel
theorem dX1_push_58 : decode cX1_push 58 = .ok (.iconst 1, 1) := by decide +kernel
theorem dX1_push_59 : decode cX1_push 59 = .ok (.iadd, 1) := by decide +kernel
theorem dX1_push_60 : decode cX1_push 60 = .ok (.putfield 21, 3) := by decide +kernel
theorem dX1_push_63 : decode cX1_push 63 = .ok (.return_, 1) := by decide +kernel
set_option maxRecDepth 20000 in
theorem ggX1_popInto_X3_copyFrom : GoodIn wsX1_popInto wsX3_copyFrom := goodIn_r _ [8, 9, 10, 11, 12, 13, 14, 15, 16, 17, 18, 19, 20, 21, 22, 23, 24, 25, 26, 27, 28, 29, 30, 31, 32, 33, 34, 38, 39, 40, 41, 42, 43, 44, 45, 46, 47] (by decide +kernel) (by decide +kernel)
set_option maxRecDepth 20000 in
theorem gX1_popInto_X3_copyFrom : GoodIn wsX1_popInto (wsV RX1 25 RX3 yX3_copyFrom wsX3_copyFrom) := goodIn_app (goodIn_of _ (by decide +kernel)) ggX1_popInto_X3_copyFrom
theorem dX1_popInto_0 : decode cX1_popInto 0 = .ok (.aload_n 0, 1) := by decide +kernel
theorem dX1_popInto_1 : decode cX1_popInto 1 = .ok (.dup, 1) := by decide +kernel
theorem dX1_popInto_2 : decode cX1_popInto 2 = .ok (.getfield 21, 3) := by decide +kernel
theorem dX1_popInto_5 : decode cX1_popInto 5 = .ok (.iconst 1, 1) := by decide +kernel
theorem dX1_popInto_6 : decode cX1_popInto 6 = .ok (.isub, 1) := by decide +kernel
theorem dX1_popInto_7 : decode cX1_popInto 7 = .ok (.putfield 21, 3) := by decide +kernel
theorem dX1_popInto_10 : decode cX1_popInto 10 = .ok (.aload_n 1, 1) := by decide +kernel
theorem dX1_popInto_11 : decode cX1_popInto 11 = .ok (.aload_n 0, 1) := by decide +kernel
theorem dX1_popInto_12 : decode cX1_popInto 12 = .ok (.getfield 11, 3) := by decide +kernel
theorem dX1_popInto_15 : decode cX1_popInto 15 = .ok (.aload_n 0, 1) := by decide +kernel
theorem dX1_popInto_16 : decode cX1_popInto 16 = .ok (.getfield 17, 3) := by decide +kernel
theorem dX1_popInto_19 : decode cX1_popInto 19 = .ok (.aload_n 0, 1) := by decide +kernel
theorem dX1_popInto_20 : decode cX1_popInto 20 = .ok (.getfield 21, 3) := by decide +kernel
theorem dX1_popInto_23 : decode cX1_popInto 23 = .ok (.iadd, 1) := by decide +kernel
theorem dX1_popInto_24 : decode cX1_popInto 24 = .ok (.bipush 6, 2) := by decide +kernel
theorem dX1_popInto_26 : decode cX1_popInto 26 = .ok (.irem, 1) := by decide +kernel
theorem dX1_popInto_27 : decode cX1_popInto 27 = .ok (.aaload, 1) := by decide +kernel
theorem dX1_popInto_28 : decode cX1_popInto 28 = .ok (.invokevirtual 25, 3) := by decide +kernel
theorem dX1_popInto_31 : decode cX1_popInto 31 = .ok (.return_, 1) := by decide +kernel
theorem dX2_isLetter_0 : decode cX2_isLetter 0 = .ok (.iload_n 0, 1) := by decide +kernel
theorem dX2_isLetter_1 : decode cX2_isLetter 1 = .ok (.bipush 97, 2) := by decide +kernel
theorem dX2_isLetter_3 : decode cX2_isLetter 3 = .ok (.if_icmp .lt 13, 3) := by decide +kernel
theorem dX2_isLetter_6 : decode cX2_isLetter 6 = .ok (.iload_n 0, 1) := by decide +kernel
theorem dX2_isLetter_7 : decode cX2_isLetter 7 = .ok (.bipush 122, 2) := by decide +kernel
theorem dX2_isLetter_9 : decode cX2_isLetter 9 = .ok (.if_icmp .gt 7, 3) := by decide +kernel
theorem dX2_isLetter_12 : decode cX2_isLetter 12 = .ok (.iconst 1, 1) := by decide +kernel
theorem dX2_isLetter_13 : decode cX2_isLetter 13 = .ok (.goto 4, 3) := by decide +kernel
theorem dX2_isLetter_16 : decode cX2_isLetter 16 = .ok (.iconst 0, 1) := by decide +kernel
theorem dX2_isLetter_17 : decode cX2_isLetter 17 = .ok (.ireturn, 1) := by decide +kernel
set_option maxRecDepth 20000 in
theorem ggX2_withLetter_X2_shiftOf : GoodIn wsX2_withLetter wsX2_shiftOf := goodIn_r _ [4] (by decide +kernel) (by decide +kernel)
set_option maxRecDepth 20000 in
theorem gX2_withLetter_X2_shiftOf : GoodIn wsX2_withLetter (va_wsS RX2 9 yX2_shiftOf wsX2_shiftOf) := goodIn_app (goodIn_of _ (by decide +kernel)) ggX2_withLetter_X2_shiftOf
theorem dX2_withLetter_0 : decode cX2_withLetter 0 = .ok (.iload_n 0, 1) := by decide +kernel
theorem dX2_withLetter_1 : decode cX2_withLetter 1 = .ok (.iload_n 2, 1) := by decide +kernel
theorem dX2_withLetter_2 : decode cX2_withLetter 2 = .ok (.bipush 97, 2) := by decide +kernel
theorem dX2_withLetter_4 : decode cX2_withLetter 4 = .ok (.isub, 1) := by decide +kernel
theorem dX2_withLetter_5 : decode cX2_withLetter 5 = .ok (.iconst 1, 1) := by decide +kernel
theorem dX2_withLetter_6 : decode cX2_withLetter 6 = .ok (.iadd, 1) := by decide +kernel
theorem dX2_withLetter_7 : decode cX2_withLetter 7 = .ok (.iload_n 1, 1) := by decide +kernel
theorem dX2_withLetter_8 : decode cX2_withLetter 8 = .ok (.invokestatic 9, 3) := by decide +kernel
theorem dX2_withLetter_11 : decode cX2_withLetter 11 = .ok (.ishl, 1) := by decide +kernel
theorem dX2_withLetter_12 : decode cX2_withLetter 12 = .ok (.ior, 1) := by decide +kernel
theorem dX2_withLetter_13 : decode cX2_withLetter 13 = .ok (.ireturn, 1) := by decide +kernel
set_option maxRecDepth 20000 in
theorem ggX2_letterNumber_X2_shiftOf : GoodIn wsX2_letterNumber wsX2_shiftOf := goodIn_r _ [4] (by decide +kernel) (by decide +kernel)
set_option maxRecDepth 20000 in
theorem gX2_letterNumber_X2_shiftOf : GoodIn wsX2_letterNumber (va_wsS RX2 9 yX2_shiftOf wsX2_shiftOf) := goodIn_app (goodIn_of _ (by decide +kernel)) ggX2_letterNumber_X2_shiftOf
theorem dX2_letterNumber_0 : decode cX2_letterNumber 0 = .ok (.iload_n 1, 1) := by decide +kernel
theorem dX2_letterNumber_1 : decode cX2_letterNumber 1 = .ok (.bipush 6, 2) := by decide +kernel
theorem dX2_letterNumber_3 : decode cX2_letterNumber 3 = .ok (.if_icmp .ge 15, 3) := by decide +kernel
theorem dX2_letterNumber_6 : decode cX2_letterNumber 6 = .ok (.iload_n 0, 1) := by decide +kernel
theorem dX2_letterNumber_7 : decode cX2_letterNumber 7 = .ok (.iload_n 1, 1) := by decide +kernel
theorem dX2_letterNumber_8 : decode cX2_letterNumber 8 = .ok (.invokestatic 9, 3) := by decide +kernel
theorem dX2_letterNumber_11 : decode cX2_letterNumber 11 = .ok (.ishr, 1) := by decide +kernel
theorem dX2_letterNumber_12 : decode cX2_letterNumber 12 = .ok (.bipush 31, 2) := by decide +kernel
theorem dX2_letterNumber_14 : decode cX2_letterNumber 14 = .ok (.iand, 1) := by decide +kernel
theorem dX2_letterNumber_15 : decode cX2_letterNumber 15 = .ok (.goto 4, 3) := by decide +kernel
theorem dX2_letterNumber_18 : decode cX2_letterNumber 18 = .ok (.iconst 0, 1) := by decide +kernel
theorem dX2_letterNumber_19 : decode cX2_letterNumber 19 = .ok (.ireturn, 1) := by decide +kernel
set_option maxRecDepth 20000 in
theorem ggX2_hash_X2_letterNumber : GoodIn wsX2_hash wsX2_letterNumber := goodIn_r _ [4, 5, 6, 3, 7] (by decide +kernel) (by decide +kernel)
set_option maxRecDepth 20000 in
theorem gX2_hash_X2_letterNumber : GoodIn wsX2_hash (va_wsS RX2 15 yX2_letterNumber wsX2_letterNumber) := goodIn_app (goodIn_of _ (by decide +kernel)) ggX2_hash_X2_letterNumber
theorem dX2_hash_0 : decode cX2_hash 0 = .ok (.bipush 7, 2) := by decide +kernel
theorem dX2_hash_2 : decode cX2_hash 2 = .ok (.istore_n 1, 1) := by decide +kernel
theorem dX2_hash_3 : decode cX2_hash 3 = .ok (.iconst 0, 1) := by decide +kernel
theorem dX2_hash_4 : decode cX2_hash 4 = .ok (.istore_n 2, 1) := by decide +kernel
theorem dX2_hash_5 : decode cX2_hash 5 = .ok (.iload_n 2, 1) := by decide +kernel
theorem dX2_hash_6 : decode cX2_hash 6 = .ok (.bipush 6, 2) := by decide +kernel
theorem dX2_hash_8 : decode cX2_hash 8 = .ok (.if_icmp .ge 30, 3) := by decide +kernel
theorem dX2_hash_11 : decode cX2_hash 11 = .ok (.iload_n 0, 1) := by decide +kernel
theorem dX2_hash_12 : decode cX2_hash 12 = .ok (.iload_n 2, 1) := by decide +kernel
theorem dX2_hash_13 : decode cX2_hash 13 = .ok (.invokestatic 15, 3) := by decide +kernel
theorem dX2_hash_16 : decode cX2_hash 16 = .ok (.istore_n 3, 1) := by decide +kernel
theorem dX2_hash_17 : decode cX2_hash 17 = .ok (.iload_n 3, 1) := by decide +kernel
theorem dX2_hash_18 : decode cX2_hash 18 = .ok (.ifCond .ne 5, 3) := by decide +kernel
theorem dX2_hash_21 : decode cX2_hash 21 = .ok (.iload_n 1, 1) := by decide +kernel
theorem dX2_hash_22 : decode cX2_hash 22 = .ok (.ireturn, 1) := by decide +kernel
theorem dX2_hash_23 : decode cX2_hash 23 = .ok (.iconst 5, 1) := by decide +kernel
theorem dX2_hash_24 : decode cX2_hash 24 = .ok (.iload_n 1, 1) := by decide +kernel
theorem dX2_hash_25 : decode cX2_hash 25 = .ok (.imul, 1) := by decide +kernel
theorem dX2_hash_26 : decode cX2_hash 26 = .ok (.iload_n 3, 1) := by decide +kernel
theorem dX2_hash_27 : decode cX2_hash 27 = .ok (.iadd, 1) := by decide +kernel
theorem dX2_hash_28 : decode cX2_hash 28 = .ok (.bipush 64, 2) := by decide +kernel
theorem dX2_hash_30 : decode cX2_hash 30 = .ok (.irem, 1) := by decide +kernel
theorem dX2_hash_31 : decode cX2_hash 31 = .ok (.istore_n 1, 1) := by decide +kernel
theorem dX2_hash_32 : decode cX2_hash 32 = .ok (.iinc 2 1, 3) := by decide +kernel
theorem dX2_hash_35 : decode cX2_hash 35 = .ok (.goto (-30), 3) := by decide +kernel
theorem dX2_hash_38 : decode cX2_hash 38 = .ok (.iload_n 1, 1) := by decide +kernel
theorem dX2_hash_39 : decode cX2_hash 39 = .ok (.ireturn, 1) := by decide +kernel
theorem dX2_shiftOf_0 : decode cX2_shiftOf 0 = .ok (.iconst 5, 1) := by decide +kernel
theorem dX2_shiftOf_1 : decode cX2_shiftOf 1 = .ok (.iconst 5, 1) := by decide +kernel
theorem dX2_shiftOf_2 : decode cX2_shiftOf 2 = .ok (.iload_n 0, 1) := by decide +kernel
theorem dX2_shiftOf_3 : decode cX2_shiftOf 3 = .ok (.isub, 1) := by decide +kernel
theorem dX2_shiftOf_4 : decode cX2_shiftOf 4 = .ok (.imul, 1) := by decide +kernel
theorem dX2_shiftOf_5 : decode cX2_shiftOf 5 = .ok (.ireturn, 1) := by decide +kernel
set_option maxRecDepth 20000 in
theorem ggX3_init_X0_init : GoodIn wsX3_init wsX0_init := goodIn_r _ [16, 17, 2, 3, 12, 18, 19, 20, 27, 28, 29] (by decide +kernel) (by decide +kernel)
set_option maxRecDepth 20000 in
theorem gX3_init_X0_init_n11 : GoodIn wsX3_init (wsX0_init) := ggX3_init_X0_init
set_option maxRecDepth 20000 in
theorem ggX3_init_X5_init : GoodIn wsX3_init wsX5_init := goodIn_r _ [22, 23, 2, 3, 12, 24, 25, 26, 34, 35, 36] (by decide +kernel) (by decide +kernel)
set_option maxRecDepth 20000 in
theorem gX3_init_X5_init_n20 : GoodIn wsX3_init (wsX5_init) := ggX3_init_X5_init
theorem dX3_init_0 : decode cX3_init 0 = .ok (.aload_n 0, 1) := by decide +kernel
theorem dX3_init_1 : decode cX3_init 1 = .ok (.invokespecial 3, 3) := by decide +kernel
theorem dX3_init_4 : decode cX3_init 4 = .ok (.aload_n 0, 1) := by decide +kernel
theorem dX3_init_5 : decode cX3_init 5 = .ok (.new 9, 3) := by decide +kernel
theorem dX3_init_8 : decode cX3_init 8 = .ok (.dup, 1) := by decide +kernel
theorem dX3_init_9 : decode cX3_init 9 = .ok (.invokespecial 11, 3) := by decide +kernel
theorem dX3_init_12 : decode cX3_init 12 = .ok (.putfield 12, 3) := by decide +kernel
theorem dX3_init_15 : decode cX3_init 15 = .ok (.aload_n 0, 1) := by decide +kernel
theorem dX3_init_16 : decode cX3_init 16 = .ok (.new 18, 3) := by decide +kernel
theorem dX3_init_19 : decode cX3_init 19 = .ok (.dup, 1) := by decide +kernel
theorem dX3_init_20 : decode cX3_init 20 = .ok (.invokespecial 20, 3) := by decide +kernel
theorem dX3_init_23 : decode cX3_init 23 = .ok (.putfield 21, 3) := by decide +kernel
theorem dX3_init_26 : decode cX3_init 26 = .ok (.aload_n 0, 1) := by decide +kernel
theorem dX3_init_27 : decode cX3_init 27 = .ok (.iconst 4, 1) := by decide +kernel
theorem dX3_init_28 : decode cX3_init 28 = .ok (.newarray .int, 2) := by decide +kernel
theorem dX3_init_30 : decode cX3_init 30 = .ok (.putfield 25, 3) := by decide +kernel
theorem dX3_init_33 : decode cX3_init 33 = .ok (.aload_n 0, 1) := by decide +kernel
theorem dX3_init_34 : decode cX3_init 34 = .ok (.iconst 0, 1) := by decide +kernel
theorem dX3_init_35 : decode cX3_init 35 = .ok (.putfield 29, 3) := by decide +kernel
theorem dX3_init_38 : decode cX3_init 38 = .ok (.iconst 0, 1) := by decide +kernel
theorem dX3_init_39 : decode cX3_init 39 = .ok (.istore_n 1, 1) := by decide +kernel
theorem dX3_init_40 : decode cX3_init 40 = .ok (.iload_n 1, 1) := by decide +kernel
theorem dX3_init_41 : decode cX3_init 41 = .ok (.iconst 4, 1) := by decide +kernel
theorem dX3_init_42 : decode cX3_init 42 = .ok (.if_icmp .ge 17, 3) := by decide +kernel
theorem dX3_init_45 : decode cX3_init 45 = .ok (.aload_n 0, 1) := by decide +kernel
theorem dX3_init_46 : decode cX3_init 46 = .ok (.getfield 25, 3) := by decide +kernel
theorem dX3_init_49 : decode cX3_init 49 = .ok (.iload_n 1, 1) := by decide +kernel
theorem dX3_init_50 : decode cX3_init 50 = .ok (.bipush (-2), 2) := by decide +kernel
theorem dX3_init_52 : decode cX3_init 52 = .ok (.iastore, 1) := by decide +kernel
theorem dX3_init_53 : decode cX3_init 53 = .ok (.iinc 1 1, 3) := by decide +kernel
theorem dX3_init_56 : decode cX3_init 56 = .ok (.goto (-16), 3) := by decide +kernel
theorem dX3_init_59 : decode cX3_init 59 = .ok (.return_, 1) := by decide +kernel
set_option maxRecDepth 20000 in
theorem ggX3_copyFrom_X0_copyFrom : GoodIn wsX3_copyFrom wsX0_copyFrom := goodIn_r _ [13, 14, 15, 5, 6, 7, 16, 17, 31, 32, 33] (by decide +kernel) (by decide +kernel)
set_option maxRecDepth 20000 in
theorem gX3_copyFrom_X0_copyFrom : GoodIn wsX3_copyFrom (wsV RX3 33 RX0 yX0_copyFrom wsX0_copyFrom) := goodIn_app (goodIn_of _ (by decide +kernel)) ggX3_copyFrom_X0_copyFrom
set_option maxRecDepth 20000 in
theorem ggX3_copyFrom_X5_copyFrom : GoodIn wsX3_copyFrom wsX5_copyFrom := goodIn_r _ [22, 23, 24, 5, 6, 7, 25, 26, 34, 35, 36] (by decide +kernel) (by decide +kernel)
set_option maxRecDepth 20000 in
theorem gX3_copyFrom_X5_copyFrom : GoodIn wsX3_copyFrom (wsV RX3 37 RX5 yX5_copyFrom wsX5_copyFrom) := goodIn_app (goodIn_of _ (by decide +kernel)) ggX3_copyFrom_X5_copyFrom
theorem dX3_copyFrom_0 : decode cX3_copyFrom 0 = .ok (.aload_n 0, 1) := by decide +kernel
theorem dX3_copyFrom_1 : decode cX3_copyFrom 1 = .ok (.getfield 12, 3) := by decide +kernel
theorem dX3_copyFrom_4 : decode cX3_copyFrom 4 = .ok (.aload_n 1, 1) := by decide +kernel
theorem dX3_copyFrom_5 : decode cX3_copyFrom 5 = .ok (.getfield 12, 3) := by decide +kernel
theorem dX3_copyFrom_8 : decode cX3_copyFrom 8 = .ok (.invokevirtual 33, 3) := by decide +kernel
theorem dX3_copyFrom_11 : decode cX3_copyFrom 11 = .ok (.aload_n 0, 1) := by decide +kernel
theorem dX3_copyFrom_12 : decode cX3_copyFrom 12 = .ok (.getfield 21, 3) := by decide +kernel
theorem dX3_copyFrom_15 : decode cX3_copyFrom 15 = .ok (.aload_n 1, 1) := by decide +kernel
theorem dX3_copyFrom_16 : decode cX3_copyFrom 16 = .ok (.getfield 21, 3) := by decide +kernel
theorem dX3_copyFrom_19 : decode cX3_copyFrom 19 = .ok (.invokevirtual 37, 3) := by decide +kernel
theorem dX3_copyFrom_22 : decode cX3_copyFrom 22 = .ok (.aload_n 1, 1) := by decide +kernel
theorem dX3_copyFrom_23 : decode cX3_copyFrom 23 = .ok (.getfield 25, 3) := by decide +kernel
theorem dX3_copyFrom_26 : decode cX3_copyFrom 26 = .ok (.iconst 0, 1) := by decide +kernel
theorem dX3_copyFrom_27 : decode cX3_copyFrom 27 = .ok (.aload_n 0, 1) := by decide +kernel
theorem dX3_copyFrom_28 : decode cX3_copyFrom 28 = .ok (.getfield 25, 3) := by decide +kernel
theorem dX3_copyFrom_31 : decode cX3_copyFrom 31 = .ok (.iconst 0, 1) := by decide +kernel
theorem dX3_copyFrom_32 : decode cX3_copyFrom 32 = .ok (.iconst 4, 1) := by decide +kernel
theorem dX3_copyFrom_33 : decode cX3_copyFrom 33 = .ok (.invokestatic 40, 3) := by decide +kernel
theorem dX3_copyFrom_36 : decode cX3_copyFrom 36 = .ok (.aload_n 0, 1) := by decide +kernel
theorem dX3_copyFrom_37 : decode cX3_copyFrom 37 = .ok (.aload_n 1, 1) := by decide +kernel
theorem dX3_copyFrom_38 : decode cX3_copyFrom 38 = .ok (.getfield 29, 3) := by decide +kernel
theorem dX3_copyFrom_41 : decode cX3_copyFrom 41 = .ok (.putfield 29, 3) := by decide +kernel
theorem dX3_copyFrom_44 : decode cX3_copyFrom 44 = .ok (.return_, 1) := by decide +kernel
set_option maxRecDepth 20000 in
theorem ggX3_canAdd_X0_isFull : GoodIn wsX3_canAdd wsX0_isFull := goodIn_r _ [6, 7, 23, 24, 25] (by decide +kernel) (by decide +kernel)
set_option maxRecDepth 20000 in
theorem gX3_canAdd_X0_isFull : GoodIn wsX3_canAdd (wsV RX3 46 RX0 yX0_isFull wsX0_isFull) := goodIn_app (goodIn_of _ (by decide +kernel)) ggX3_canAdd_X0_isFull
set_option maxRecDepth 20000 in
theorem ggX3_canAdd_X3_canRenameTo : GoodIn wsX3_canAdd wsX3_canRenameTo := goodIn_r _ [12, 13, 1, 14, 15, 16, 5, 17, 7, 18, 19, 20, 21, 22, 23, 24, 25] (by decide +kernel) (by decide +kernel)
set_option maxRecDepth 20000 in
theorem gX3_canAdd_X3_canRenameTo : GoodIn wsX3_canAdd (wsV RX3 50 RX3 yX3_canRenameTo wsX3_canRenameTo) := goodIn_app (goodIn_of _ (by decide +kernel)) ggX3_canAdd_X3_canRenameTo
theorem dX3_canAdd_0 : decode cX3_canAdd 0 = .ok (.aload_n 0, 1) := by decide +kernel
theorem dX3_canAdd_1 : decode cX3_canAdd 1 = .ok (.getfield 12, 3) := by decide +kernel
theorem dX3_canAdd_4 : decode cX3_canAdd 4 = .ok (.invokevirtual 46, 3) := by decide +kernel
theorem dX3_canAdd_7 : decode cX3_canAdd 7 = .ok (.ifCond .ne 15, 3) := by decide +kernel
theorem dX3_canAdd_10 : decode cX3_canAdd 10 = .ok (.aload_n 0, 1) := by decide +kernel
theorem dX3_canAdd_11 : decode cX3_canAdd 11 = .ok (.iload_n 1, 1) := by decide +kernel
theorem dX3_canAdd_12 : decode cX3_canAdd 12 = .ok (.invokevirtual 50, 3) := by decide +kernel
theorem dX3_canAdd_15 : decode cX3_canAdd 15 = .ok (.ifCond .eq 7, 3) := by decide +kernel
theorem dX3_canAdd_18 : decode cX3_canAdd 18 = .ok (.iconst 1, 1) := by decide +kernel
theorem dX3_canAdd_19 : decode cX3_canAdd 19 = .ok (.goto 4, 3) := by decide +kernel
theorem dX3_canAdd_22 : decode cX3_canAdd 22 = .ok (.iconst 0, 1) := by decide +kernel
theorem dX3_canAdd_23 : decode cX3_canAdd 23 = .ok (.ireturn, 1) := by decide +kernel
set_option maxRecDepth 20000 in
theorem ggX3_canRenameTo_X0_placeOfName : GoodIn wsX3_canRenameTo wsX0_placeOfName := goodIn_r _ [7, 8, 9, 14, 15, 16] (by decide +kernel) (by decide +kernel)
set_option maxRecDepth 20000 in
theorem gX3_canRenameTo_X0_placeOfName : GoodIn wsX3_canRenameTo (wsV RX3 54 RX0 yX0_placeOfName wsX0_placeOfName) := goodIn_app (goodIn_of _ (by decide +kernel)) ggX3_canRenameTo_X0_placeOfName
theorem dX3_canRenameTo_0 : decode cX3_canRenameTo 0 = .ok (.aload_n 0, 1) := by decide +kernel
theorem dX3_canRenameTo_1 : decode cX3_canRenameTo 1 = .ok (.getfield 29, 3) := by decide +kernel
theorem dX3_canRenameTo_4 : decode cX3_canRenameTo 4 = .ok (.sipush 1000, 3) := by decide +kernel
theorem dX3_canRenameTo_7 : decode cX3_canRenameTo 7 = .ok (.if_icmp .ge 19, 3) := by decide +kernel
theorem dX3_canRenameTo_10 : decode cX3_canRenameTo 10 = .ok (.aload_n 0, 1) := by decide +kernel
theorem dX3_canRenameTo_11 : decode cX3_canRenameTo 11 = .ok (.getfield 12, 3) := by decide +kernel
theorem dX3_canRenameTo_14 : decode cX3_canRenameTo 14 = .ok (.iload_n 1, 1) := by decide +kernel
theorem dX3_canRenameTo_15 : decode cX3_canRenameTo 15 = .ok (.invokevirtual 54, 3) := by decide +kernel
theorem dX3_canRenameTo_18 : decode cX3_canRenameTo 18 = .ok (.iconst (-1), 1) := by decide +kernel
theorem dX3_canRenameTo_19 : decode cX3_canRenameTo 19 = .ok (.if_icmp .ne 7, 3) := by decide +kernel
theorem dX3_canRenameTo_22 : decode cX3_canRenameTo 22 = .ok (.iconst 1, 1) := by decide +kernel
theorem dX3_canRenameTo_23 : decode cX3_canRenameTo 23 = .ok (.goto 4, 3) := by decide +kernel
theorem dX3_canRenameTo_26 : decode cX3_canRenameTo 26 = .ok (.iconst 0, 1) := by decide +kernel
theorem dX3_canRenameTo_27 : decode cX3_canRenameTo 27 = .ok (.ireturn, 1) := by decide +kernel
set_option maxRecDepth 20000 in
theorem ggX3_makeEntry_X2_hash : GoodIn wsX3_makeEntry wsX2_hash := goodIn_r _ [7, 8, 9, 6, 10, 11, 12, 13] (by decide +kernel) (by decide +kernel)
set_option maxRecDepth 20000 in
theorem gX3_makeEntry_X2_hash : GoodIn wsX3_makeEntry (va_wsS RX3 58 yX2_hash wsX2_hash) := goodIn_app (goodIn_of _ (by decide +kernel)) ggX3_makeEntry_X2_hash
set_option maxRecDepth 20000 in
theorem ggX3_makeEntry_X0_insert : GoodIn wsX3_makeEntry wsX0_insert := goodIn_r _ [18, 19, 20, 21, 22, 23, 24, 17, 25, 53, 54, 55] (by decide +kernel) (by decide +kernel)
set_option maxRecDepth 20000 in
theorem gX3_makeEntry_X0_insert : GoodIn wsX3_makeEntry (wsV RX3 63 RX0 yX0_insert wsX0_insert) := goodIn_app (goodIn_of _ (by decide +kernel)) ggX3_makeEntry_X0_insert
set_option maxRecDepth 20000 in
theorem ggX3_makeEntry_X5_splitFrom : GoodIn wsX3_makeEntry wsX5_splitFrom := goodIn_r _ [30, 31, 32, 33, 34, 35, 17, 36, 37, 38, 29, 39, 40, 41, 42, 22, 23, 24, 25, 19, 20, 43, 44, 45, 46, 47, 48, 56, 57, 58, 53, 54, 55] (by decide +kernel) (by decide +kernel)
set_option maxRecDepth 20000 in
theorem gX3_makeEntry_X5_splitFrom : GoodIn wsX3_makeEntry (wsV RX3 67 RX5 yX5_splitFrom wsX5_splitFrom) := goodIn_app (goodIn_of _ (by decide +kernel)) ggX3_makeEntry_X5_splitFrom
theorem dX3_makeEntry_0 : decode cX3_makeEntry 0 = .ok (.aload_n 0, 1) := by decide +kernel
theorem dX3_makeEntry_1 : decode cX3_makeEntry 1 = .ok (.getfield 29, 3) := by decide +kernel
theorem dX3_makeEntry_4 : decode cX3_makeEntry 4 = .ok (.istore_n 2, 1) := by decide +kernel
theorem dX3_makeEntry_5 : decode cX3_makeEntry 5 = .ok (.iload_n 1, 1) := by decide +kernel
theorem dX3_makeEntry_6 : decode cX3_makeEntry 6 = .ok (.invokestatic 58, 3) := by decide +kernel
theorem dX3_makeEntry_9 : decode cX3_makeEntry 9 = .ok (.istore_n 3, 1) := by decide +kernel
theorem dX3_makeEntry_10 : decode cX3_makeEntry 10 = .ok (.aload_n 0, 1) := by decide +kernel
theorem dX3_makeEntry_11 : decode cX3_makeEntry 11 = .ok (.dup, 1) := by decide +kernel
theorem dX3_makeEntry_12 : decode cX3_makeEntry 12 = .ok (.getfield 29, 3) := by decide +kernel
theorem dX3_makeEntry_15 : decode cX3_makeEntry 15 = .ok (.iconst 1, 1) := by decide +kernel
theorem dX3_makeEntry_16 : decode cX3_makeEntry 16 = .ok (.iadd, 1) := by decide +kernel
theorem dX3_makeEntry_17 : decode cX3_makeEntry 17 = .ok (.putfield 29, 3) := by decide +kernel
theorem dX3_makeEntry_20 : decode cX3_makeEntry 20 = .ok (.aload_n 0, 1) := by decide +kernel
theorem dX3_makeEntry_21 : decode cX3_makeEntry 21 = .ok (.getfield 12, 3) := by decide +kernel
theorem dX3_makeEntry_24 : decode cX3_makeEntry 24 = .ok (.iload_n 3, 1) := by decide +kernel
theorem dX3_makeEntry_25 : decode cX3_makeEntry 25 = .ok (.sipush 1000, 3) := by decide +kernel
theorem dX3_makeEntry_28 : decode cX3_makeEntry 28 = .ok (.imul, 1) := by decide +kernel
theorem dX3_makeEntry_29 : decode cX3_makeEntry 29 = .ok (.iload_n 2, 1) := by decide +kernel
theorem dX3_makeEntry_30 : decode cX3_makeEntry 30 = .ok (.iadd, 1) := by decide +kernel
theorem dX3_makeEntry_31 : decode cX3_makeEntry 31 = .ok (.iload_n 1, 1) := by decide +kernel
theorem dX3_makeEntry_32 : decode cX3_makeEntry 32 = .ok (.invokevirtual 63, 3) := by decide +kernel
theorem dX3_makeEntry_35 : decode cX3_makeEntry 35 = .ok (.aload_n 0, 1) := by decide +kernel
theorem dX3_makeEntry_36 : decode cX3_makeEntry 36 = .ok (.getfield 21, 3) := by decide +kernel
theorem dX3_makeEntry_39 : decode cX3_makeEntry 39 = .ok (.iload_n 3, 1) := by decide +kernel
theorem dX3_makeEntry_40 : decode cX3_makeEntry 40 = .ok (.aload_n 0, 1) := by decide +kernel
theorem dX3_makeEntry_41 : decode cX3_makeEntry 41 = .ok (.getfield 12, 3) := by decide +kernel
theorem dX3_makeEntry_44 : decode cX3_makeEntry 44 = .ok (.invokevirtual 67, 3) := by decide +kernel
theorem dX3_makeEntry_47 : decode cX3_makeEntry 47 = .ok (.iload_n 2, 1) := by decide +kernel
theorem dX3_makeEntry_48 : decode cX3_makeEntry 48 = .ok (.ireturn, 1) := by decide +kernel
set_option maxRecDepth 20000 in
theorem ggX3_dropEntry_X0_hashIn : GoodIn wsX3_dropEntry wsX0_hashIn := goodIn_r _ [7, 8, 49, 50, 51] (by decide +kernel) (by decide +kernel)
set_option maxRecDepth 20000 in
theorem gX3_dropEntry_X0_hashIn : GoodIn wsX3_dropEntry (wsV RX3 71 RX0 yX0_hashIn wsX0_hashIn) := goodIn_app (goodIn_of _ (by decide +kernel)) ggX3_dropEntry_X0_hashIn
set_option maxRecDepth 20000 in
theorem ggX3_dropEntry_X0_takeOut : GoodIn wsX3_dropEntry wsX0_takeOut := goodIn_r _ [12, 13, 8, 14, 49, 50, 51] (by decide +kernel) (by decide +kernel)
set_option maxRecDepth 20000 in
theorem gX3_dropEntry_X0_takeOut : GoodIn wsX3_dropEntry (wsV RX3 74 RX0 yX0_takeOut wsX0_takeOut) := goodIn_app (goodIn_of _ (by decide +kernel)) ggX3_dropEntry_X0_takeOut
set_option maxRecDepth 20000 in
theorem ggX3_dropEntry_X5_mergeFrom : GoodIn wsX3_dropEntry wsX5_mergeFrom := goodIn_r _ [19, 20, 21, 22, 23, 18, 24, 25, 26, 27, 6, 28, 29, 30, 31, 32, 33, 34, 35, 36, 37, 38, 13, 8, 39, 40, 41, 42, 43, 44, 52, 53, 54, 49, 50, 51] (by decide +kernel) (by decide +kernel)
set_option maxRecDepth 20000 in
theorem gX3_dropEntry_X5_mergeFrom : GoodIn wsX3_dropEntry (wsV RX3 78 RX5 yX5_mergeFrom wsX5_mergeFrom) := goodIn_app (goodIn_of _ (by decide +kernel)) ggX3_dropEntry_X5_mergeFrom
theorem dX3_dropEntry_0 : decode cX3_dropEntry 0 = .ok (.aload_n 0, 1) := by decide +kernel
theorem dX3_dropEntry_1 : decode cX3_dropEntry 1 = .ok (.getfield 12, 3) := by decide +kernel
theorem dX3_dropEntry_4 : decode cX3_dropEntry 4 = .ok (.iload_n 1, 1) := by decide +kernel
theorem dX3_dropEntry_5 : decode cX3_dropEntry 5 = .ok (.invokevirtual 71, 3) := by decide +kernel
theorem dX3_dropEntry_8 : decode cX3_dropEntry 8 = .ok (.istore_n 2, 1) := by decide +kernel
theorem dX3_dropEntry_9 : decode cX3_dropEntry 9 = .ok (.aload_n 0, 1) := by decide +kernel
theorem dX3_dropEntry_10 : decode cX3_dropEntry 10 = .ok (.getfield 12, 3) := by decide +kernel
theorem dX3_dropEntry_13 : decode cX3_dropEntry 13 = .ok (.iload_n 1, 1) := by decide +kernel
theorem dX3_dropEntry_14 : decode cX3_dropEntry 14 = .ok (.invokevirtual 74, 3) := by decide +kernel
theorem dX3_dropEntry_17 : decode cX3_dropEntry 17 = .ok (.aload_n 0, 1) := by decide +kernel
theorem dX3_dropEntry_18 : decode cX3_dropEntry 18 = .ok (.getfield 21, 3) := by decide +kernel
theorem dX3_dropEntry_21 : decode cX3_dropEntry 21 = .ok (.iload_n 2, 1) := by decide +kernel
theorem dX3_dropEntry_22 : decode cX3_dropEntry 22 = .ok (.aload_n 0, 1) := by decide +kernel
theorem dX3_dropEntry_23 : decode cX3_dropEntry 23 = .ok (.getfield 12, 3) := by decide +kernel
theorem dX3_dropEntry_26 : decode cX3_dropEntry 26 = .ok (.invokevirtual 78, 3) := by decide +kernel
theorem dX3_dropEntry_29 : decode cX3_dropEntry 29 = .ok (.return_, 1) := by decide +kernel
theorem dX3_isOpen_0 : decode cX3_isOpen 0 = .ok (.aload_n 0, 1) := by decide +kernel
theorem dX3_isOpen_1 : decode cX3_isOpen 1 = .ok (.getfield 25, 3) := by decide +kernel
theorem dX3_isOpen_4 : decode cX3_isOpen 4 = .ok (.iload_n 1, 1) := by decide +kernel
theorem dX3_isOpen_5 : decode cX3_isOpen 5 = .ok (.iaload, 1) := by decide +kernel
theorem dX3_isOpen_6 : decode cX3_isOpen 6 = .ok (.bipush (-2), 2) := by decide +kernel
theorem dX3_isOpen_8 : decode cX3_isOpen 8 = .ok (.if_icmp .eq 7, 3) := by decide +kernel
theorem dX3_isOpen_11 : decode cX3_isOpen 11 = .ok (.iconst 1, 1) := by decide +kernel
theorem dX3_isOpen_12 : decode cX3_isOpen 12 = .ok (.goto 4, 3) := by decide +kernel
theorem dX3_isOpen_15 : decode cX3_isOpen 15 = .ok (.iconst 0, 1) := by decide +kernel
theorem dX3_isOpen_16 : decode cX3_isOpen 16 = .ok (.ireturn, 1) := by decide +kernel
set_option maxRecDepth 20000 in
theorem ggX3_openReaders_X3_isOpen : GoodIn wsX3_openReaders wsX3_isOpen := goodIn_r _ [5, 6, 7, 8, 9, 10] (by decide +kernel) (by decide +kernel)
set_option maxRecDepth 20000 in
theorem gX3_openReaders_X3_isOpen : GoodIn wsX3_openReaders (wsV RX3 81 RX3 yX3_isOpen wsX3_isOpen) := goodIn_app (goodIn_of _ (by decide +kernel)) ggX3_openReaders_X3_isOpen
theorem dX3_openReaders_0 : decode cX3_openReaders 0 = .ok (.iconst 0, 1) := by decide +kernel
theorem dX3_openReaders_1 : decode cX3_openReaders 1 = .ok (.istore_n 1, 1) := by decide +kernel
theorem dX3_openReaders_2 : decode cX3_openReaders 2 = .ok (.iconst 0, 1) := by decide +kernel
theorem dX3_openReaders_3 : decode cX3_openReaders 3 = .ok (.istore_n 2, 1) := by decide +kernel
theorem dX3_openReaders_4 : decode cX3_openReaders 4 = .ok (.iload_n 2, 1) := by decide +kernel
theorem dX3_openReaders_5 : decode cX3_openReaders 5 = .ok (.iconst 4, 1) := by decide +kernel
theorem dX3_openReaders_6 : decode cX3_openReaders 6 = .ok (.if_icmp .ge 20, 3) := by decide +kernel
theorem dX3_openReaders_9 : decode cX3_openReaders 9 = .ok (.aload_n 0, 1) := by decide +kernel
theorem dX3_openReaders_10 : decode cX3_openReaders 10 = .ok (.iload_n 2, 1) := by decide +kernel
theorem dX3_openReaders_11 : decode cX3_openReaders 11 = .ok (.invokevirtual 81, 3) := by decide +kernel
theorem dX3_openReaders_14 : decode cX3_openReaders 14 = .ok (.ifCond .eq 6, 3) := by decide +kernel
theorem dX3_openReaders_17 : decode cX3_openReaders 17 = .ok (.iinc 1 1, 3) := by decide +kernel
theorem dX3_openReaders_20 : decode cX3_openReaders 20 = .ok (.iinc 2 1, 3) := by decide +kernel
theorem dX3_openReaders_23 : decode cX3_openReaders 23 = .ok (.goto (-19), 3) := by decide +kernel
theorem dX3_openReaders_26 : decode cX3_openReaders 26 = .ok (.iload_n 1, 1) := by decide +kernel
theorem dX3_openReaders_27 : decode cX3_openReaders 27 = .ok (.ireturn, 1) := by decide +kernel
set_option maxRecDepth 20000 in
theorem ggX3_nextPlace_X0_placeAfter : GoodIn wsX3_nextPlace wsX0_placeAfter := goodIn_r _ [7, 8, 9, 14, 15, 16] (by decide +kernel) (by decide +kernel)
set_option maxRecDepth 20000 in
theorem gX3_nextPlace_X0_placeAfter : GoodIn wsX3_nextPlace (wsV RX3 84 RX0 yX0_placeAfter wsX0_placeAfter) := goodIn_app (goodIn_of _ (by decide +kernel)) ggX3_nextPlace_X0_placeAfter
theorem dX3_nextPlace_0 : decode cX3_nextPlace 0 = .ok (.aload_n 0, 1) := by decide +kernel
theorem dX3_nextPlace_1 : decode cX3_nextPlace 1 = .ok (.getfield 12, 3) := by decide +kernel
theorem dX3_nextPlace_4 : decode cX3_nextPlace 4 = .ok (.aload_n 0, 1) := by decide +kernel
theorem dX3_nextPlace_5 : decode cX3_nextPlace 5 = .ok (.getfield 25, 3) := by decide +kernel
theorem dX3_nextPlace_8 : decode cX3_nextPlace 8 = .ok (.iload_n 1, 1) := by decide +kernel
theorem dX3_nextPlace_9 : decode cX3_nextPlace 9 = .ok (.iaload, 1) := by decide +kernel
theorem dX3_nextPlace_10 : decode cX3_nextPlace 10 = .ok (.invokevirtual 84, 3) := by decide +kernel
theorem dX3_nextPlace_13 : decode cX3_nextPlace 13 = .ok (.ireturn, 1) := by decide +kernel
set_option maxRecDepth 20000 in
theorem ggX3_endOfLeafAt_X0_hashIn : GoodIn wsX3_endOfLeafAt wsX0_hashIn := goodIn_r _ [9, 10, 24, 25, 26] (by decide +kernel) (by decide +kernel)
set_option maxRecDepth 20000 in
theorem gX3_endOfLeafAt_X0_hashIn : GoodIn wsX3_endOfLeafAt (wsV RX3 71 RX0 yX0_hashIn wsX0_hashIn) := goodIn_app (goodIn_of _ (by decide +kernel)) ggX3_endOfLeafAt_X0_hashIn
set_option maxRecDepth 20000 in
theorem ggX3_endOfLeafAt_X5_lastHash : GoodIn wsX3_endOfLeafAt wsX5_lastHash := goodIn_r _ [14] (by decide +kernel) (by decide +kernel)
set_option maxRecDepth 20000 in
theorem gX3_endOfLeafAt_X5_lastHash : GoodIn wsX3_endOfLeafAt (va_wsS RX3 93 yX5_lastHash wsX5_lastHash) := goodIn_app (goodIn_of _ (by decide +kernel)) ggX3_endOfLeafAt_X5_lastHash
set_option maxRecDepth 20000 in
theorem ggX3_endOfLeafAt_X0_placeAfter : GoodIn wsX3_endOfLeafAt wsX0_placeAfter := goodIn_r _ [18, 19, 10, 24, 25, 26] (by decide +kernel) (by decide +kernel)
set_option maxRecDepth 20000 in
theorem gX3_endOfLeafAt_X0_placeAfter : GoodIn wsX3_endOfLeafAt (wsV RX3 84 RX0 yX0_placeAfter wsX0_placeAfter) := goodIn_app (goodIn_of _ (by decide +kernel)) ggX3_endOfLeafAt_X0_placeAfter
theorem dX3_endOfLeafAt_0 : decode cX3_endOfLeafAt 0 = .ok (.iload_n 1, 1) := by decide +kernel
theorem dX3_endOfLeafAt_1 : decode cX3_endOfLeafAt 1 = .ok (.aload_n 0, 1) := by decide +kernel
theorem dX3_endOfLeafAt_2 : decode cX3_endOfLeafAt 2 = .ok (.getfield 12, 3) := by decide +kernel
theorem dX3_endOfLeafAt_5 : decode cX3_endOfLeafAt 5 = .ok (.getfield 87, 3) := by decide +kernel
theorem dX3_endOfLeafAt_8 : decode cX3_endOfLeafAt 8 = .ok (.if_icmp .lt 5, 3) := by decide +kernel
theorem dX3_endOfLeafAt_11 : decode cX3_endOfLeafAt 11 = .ok (.iload_n 1, 1) := by decide +kernel
theorem dX3_endOfLeafAt_12 : decode cX3_endOfLeafAt 12 = .ok (.ireturn, 1) := by decide +kernel
theorem dX3_endOfLeafAt_13 : decode cX3_endOfLeafAt 13 = .ok (.aload_n 0, 1) := by decide +kernel
theorem dX3_endOfLeafAt_14 : decode cX3_endOfLeafAt 14 = .ok (.getfield 12, 3) := by decide +kernel
theorem dX3_endOfLeafAt_17 : decode cX3_endOfLeafAt 17 = .ok (.iload_n 1, 1) := by decide +kernel
theorem dX3_endOfLeafAt_18 : decode cX3_endOfLeafAt 18 = .ok (.invokevirtual 71, 3) := by decide +kernel
theorem dX3_endOfLeafAt_21 : decode cX3_endOfLeafAt 21 = .ok (.istore_n 2, 1) := by decide +kernel
theorem dX3_endOfLeafAt_22 : decode cX3_endOfLeafAt 22 = .ok (.iload_n 2, 1) := by decide +kernel
theorem dX3_endOfLeafAt_23 : decode cX3_endOfLeafAt 23 = .ok (.aload_n 0, 1) := by decide +kernel
theorem dX3_endOfLeafAt_24 : decode cX3_endOfLeafAt 24 = .ok (.getfield 21, 3) := by decide +kernel
theorem dX3_endOfLeafAt_27 : decode cX3_endOfLeafAt 27 = .ok (.getfield 90, 3) := by decide +kernel
theorem dX3_endOfLeafAt_30 : decode cX3_endOfLeafAt 30 = .ok (.iload_n 2, 1) := by decide +kernel
theorem dX3_endOfLeafAt_31 : decode cX3_endOfLeafAt 31 = .ok (.iaload, 1) := by decide +kernel
theorem dX3_endOfLeafAt_32 : decode cX3_endOfLeafAt 32 = .ok (.invokestatic 93, 3) := by decide +kernel
theorem dX3_endOfLeafAt_35 : decode cX3_endOfLeafAt 35 = .ok (.istore_n 3, 1) := by decide +kernel
theorem dX3_endOfLeafAt_36 : decode cX3_endOfLeafAt 36 = .ok (.aload_n 0, 1) := by decide +kernel
theorem dX3_endOfLeafAt_37 : decode cX3_endOfLeafAt 37 = .ok (.getfield 12, 3) := by decide +kernel
theorem dX3_endOfLeafAt_40 : decode cX3_endOfLeafAt 40 = .ok (.iload_n 3, 1) := by decide +kernel
theorem dX3_endOfLeafAt_41 : decode cX3_endOfLeafAt 41 = .ok (.sipush 1000, 3) := by decide +kernel
theorem dX3_endOfLeafAt_44 : decode cX3_endOfLeafAt 44 = .ok (.imul, 1) := by decide +kernel
theorem dX3_endOfLeafAt_45 : decode cX3_endOfLeafAt 45 = .ok (.sipush 1000, 3) := by decide +kernel
theorem dX3_endOfLeafAt_48 : decode cX3_endOfLeafAt 48 = .ok (.iadd, 1) := by decide +kernel
theorem dX3_endOfLeafAt_49 : decode cX3_endOfLeafAt 49 = .ok (.iconst 1, 1) := by decide +kernel
theorem dX3_endOfLeafAt_50 : decode cX3_endOfLeafAt 50 = .ok (.isub, 1) := by decide +kernel
theorem dX3_endOfLeafAt_51 : decode cX3_endOfLeafAt 51 = .ok (.invokevirtual 84, 3) := by decide +kernel
theorem dX3_endOfLeafAt_54 : decode cX3_endOfLeafAt 54 = .ok (.ireturn, 1) := by decide +kernel
theorem dX4_init_0 : decode cX4_init 0 = .ok (.aload_n 0, 1) := by decide +kernel
theorem dX4_init_1 : decode cX4_init 1 = .ok (.invokespecial 3, 3) := by decide +kernel
theorem dX4_init_4 : decode cX4_init 4 = .ok (.aload_n 0, 1) := by decide +kernel
theorem dX4_init_5 : decode cX4_init 5 = .ok (.bipush 80, 2) := by decide +kernel
theorem dX4_init_7 : decode cX4_init 7 = .ok (.newarray .int, 2) := by decide +kernel
theorem dX4_init_9 : decode cX4_init 9 = .ok (.putfield 9, 3) := by decide +kernel
theorem dX4_init_12 : decode cX4_init 12 = .ok (.aload_n 0, 1) := by decide +kernel
theorem dX4_init_13 : decode cX4_init 13 = .ok (.iconst 0, 1) := by decide +kernel
theorem dX4_init_14 : decode cX4_init 14 = .ok (.putfield 15, 3) := by decide +kernel
theorem dX4_init_17 : decode cX4_init 17 = .ok (.return_, 1) := by decide +kernel
theorem dX4_append_0 : decode cX4_append 0 = .ok (.aload_n 0, 1) := by decide +kernel
theorem dX4_append_1 : decode cX4_append 1 = .ok (.getfield 9, 3) := by decide +kernel
theorem dX4_append_4 : decode cX4_append 4 = .ok (.aload_n 0, 1) := by decide +kernel
theorem dX4_append_5 : decode cX4_append 5 = .ok (.getfield 15, 3) := by decide +kernel
theorem dX4_append_8 : decode cX4_append 8 = .ok (.iload_n 1, 1) := by decide +kernel
theorem dX4_append_9 : decode cX4_append 9 = .ok (.iastore, 1) := by decide +kernel
theorem dX4_append_10 : decode cX4_append 10 = .ok (.aload_n 0, 1) := by decide +kernel
theorem dX4_append_11 : decode cX4_append 11 = .ok (.dup, 1) := by decide +kernel
theorem dX4_append_12 : decode cX4_append 12 = .ok (.getfield 15, 3) := by decide +kernel
theorem dX4_append_15 : decode cX4_append 15 = .ok (.iconst 1, 1) := by decide +kernel
theorem dX4_append_16 : decode cX4_append 16 = .ok (.iadd, 1) := by decide +kernel
theorem dX4_append_17 : decode cX4_append 17 = .ok (.putfield 15, 3) := by decide +kernel
theorem dX4_append_20 : decode cX4_append 20 = .ok (.return_, 1) := by decide +kernel
theorem dX4_empty_0 : decode cX4_empty 0 = .ok (.aload_n 0, 1) := by decide +kernel
theorem dX4_empty_1 : decode cX4_empty 1 = .ok (.iconst 0, 1) := by decide +kernel
theorem dX4_empty_2 : decode cX4_empty 2 = .ok (.putfield 15, 3) := by decide +kernel
theorem dX4_empty_5 : decode cX4_empty 5 = .ok (.return_, 1) := by decide +kernel
set_option maxRecDepth 20000 in
theorem ggX4_nameBetween_X2_isLetter : GoodIn wsX4_nameBetween wsX2_isLetter := goodIn_r _ [5] (by decide +kernel) (by decide +kernel)
set_option maxRecDepth 20000 in
theorem gX4_nameBetween_X2_isLetter : GoodIn wsX4_nameBetween (va_wsS RX4 19 yX2_isLetter wsX2_isLetter) := goodIn_app (goodIn_of _ (by decide +kernel)) ggX4_nameBetween_X2_isLetter
set_option maxRecDepth 20000 in
theorem ggX4_nameBetween_X2_withLetter : GoodIn wsX4_nameBetween wsX2_withLetter := goodIn_r _ [8, 9, 10, 4, 11] (by decide +kernel) (by decide +kernel)
set_option maxRecDepth 20000 in
theorem gX4_nameBetween_X2_withLetter : GoodIn wsX4_nameBetween (va_wsS RX4 25 yX2_withLetter wsX2_withLetter) := goodIn_app (goodIn_of _ (by decide +kernel)) ggX4_nameBetween_X2_withLetter
theorem dX4_nameBetween_0 : decode cX4_nameBetween 0 = .ok (.iload_n 2, 1) := by decide +kernel
theorem dX4_nameBetween_1 : decode cX4_nameBetween 1 = .ok (.iload_n 1, 1) := by decide +kernel
theorem dX4_nameBetween_2 : decode cX4_nameBetween 2 = .ok (.isub, 1) := by decide +kernel
theorem dX4_nameBetween_3 : decode cX4_nameBetween 3 = .ok (.bipush 6, 2) := by decide +kernel
theorem dX4_nameBetween_5 : decode cX4_nameBetween 5 = .ok (.if_icmp .le 5, 3) := by decide +kernel
theorem dX4_nameBetween_8 : decode cX4_nameBetween 8 = .ok (.iconst 0, 1) := by decide +kernel
theorem dX4_nameBetween_9 : decode cX4_nameBetween 9 = .ok (.ireturn, 1) := by decide +kernel
theorem dX4_nameBetween_10 : decode cX4_nameBetween 10 = .ok (.iconst 0, 1) := by decide +kernel
theorem dX4_nameBetween_11 : decode cX4_nameBetween 11 = .ok (.istore_n 3, 1) := by decide +kernel
theorem dX4_nameBetween_12 : decode cX4_nameBetween 12 = .ok (.iload_n 1, 1) := by decide +kernel
theorem dX4_nameBetween_13 : decode cX4_nameBetween 13 = .ok (.istore 4, 2) := by decide +kernel
theorem dX4_nameBetween_15 : decode cX4_nameBetween 15 = .ok (.iload 4, 2) := by decide +kernel
theorem dX4_nameBetween_17 : decode cX4_nameBetween 17 = .ok (.iload_n 2, 1) := by decide +kernel
theorem dX4_nameBetween_18 : decode cX4_nameBetween 18 = .ok (.if_icmp .ge 40, 3) := by decide +kernel
theorem dX4_nameBetween_21 : decode cX4_nameBetween 21 = .ok (.aload_n 0, 1) := by decide +kernel
theorem dX4_nameBetween_22 : decode cX4_nameBetween 22 = .ok (.getfield 9, 3) := by decide +kernel
theorem dX4_nameBetween_25 : decode cX4_nameBetween 25 = .ok (.iload 4, 2) := by decide +kernel
theorem dX4_nameBetween_27 : decode cX4_nameBetween 27 = .ok (.iaload, 1) := by decide +kernel
theorem dX4_nameBetween_28 : decode cX4_nameBetween 28 = .ok (.invokestatic 19, 3) := by decide +kernel
theorem dX4_nameBetween_31 : decode cX4_nameBetween 31 = .ok (.ifCond .ne 5, 3) := by decide +kernel
theorem dX4_nameBetween_34 : decode cX4_nameBetween 34 = .ok (.iconst 0, 1) := by decide +kernel
theorem dX4_nameBetween_35 : decode cX4_nameBetween 35 = .ok (.ireturn, 1) := by decide +kernel
theorem dX4_nameBetween_36 : decode cX4_nameBetween 36 = .ok (.iload_n 3, 1) := by decide +kernel
theorem dX4_nameBetween_37 : decode cX4_nameBetween 37 = .ok (.iload 4, 2) := by decide +kernel
theorem dX4_nameBetween_39 : decode cX4_nameBetween 39 = .ok (.iload_n 1, 1) := by decide +kernel
theorem dX4_nameBetween_40 : decode cX4_nameBetween 40 = .ok (.isub, 1) := by decide +kernel
theorem dX4_nameBetween_41 : decode cX4_nameBetween 41 = .ok (.aload_n 0, 1) := by decide +kernel
theorem dX4_nameBetween_42 : decode cX4_nameBetween 42 = .ok (.getfield 9, 3) := by decide +kernel
theorem dX4_nameBetween_45 : decode cX4_nameBetween 45 = .ok (.iload 4, 2) := by decide +kernel
theorem dX4_nameBetween_47 : decode cX4_nameBetween 47 = .ok (.iaload, 1) := by decide +kernel
theorem dX4_nameBetween_48 : decode cX4_nameBetween 48 = .ok (.invokestatic 25, 3) := by decide +kernel
theorem dX4_nameBetween_51 : decode cX4_nameBetween 51 = .ok (.istore_n 3, 1) := by decide +kernel
theorem dX4_nameBetween_52 : decode cX4_nameBetween 52 = .ok (.iinc 4 1, 3) := by decide +kernel
theorem dX4_nameBetween_55 : decode cX4_nameBetween 55 = .ok (.goto (-40), 3) := by decide +kernel
theorem dX4_nameBetween_58 : decode cX4_nameBetween 58 = .ok (.iload_n 3, 1) := by decide +kernel
theorem dX4_nameBetween_59 : decode cX4_nameBetween 59 = .ok (.ireturn, 1) := by decide +kernel
theorem dX5_init_0 : decode cX5_init 0 = .ok (.aload_n 0, 1) := by decide +kernel
theorem dX5_init_1 : decode cX5_init 1 = .ok (.invokespecial 3, 3) := by decide +kernel
theorem dX5_init_4 : decode cX5_init 4 = .ok (.aload_n 0, 1) := by decide +kernel
theorem dX5_init_5 : decode cX5_init 5 = .ok (.bipush 64, 2) := by decide +kernel
theorem dX5_init_7 : decode cX5_init 7 = .ok (.newarray .int, 2) := by decide +kernel
theorem dX5_init_9 : decode cX5_init 9 = .ok (.putfield 9, 3) := by decide +kernel
theorem dX5_init_12 : decode cX5_init 12 = .ok (.aload_n 0, 1) := by decide +kernel
theorem dX5_init_13 : decode cX5_init 13 = .ok (.iconst 0, 1) := by decide +kernel
theorem dX5_init_14 : decode cX5_init 14 = .ok (.putfield 15, 3) := by decide +kernel
theorem dX5_init_17 : decode cX5_init 17 = .ok (.aload_n 0, 1) := by decide +kernel
theorem dX5_init_18 : decode cX5_init 18 = .ok (.iconst 0, 1) := by decide +kernel
theorem dX5_init_19 : decode cX5_init 19 = .ok (.putfield 19, 3) := by decide +kernel
theorem dX5_init_22 : decode cX5_init 22 = .ok (.return_, 1) := by decide +kernel
theorem dX5_copyFrom_0 : decode cX5_copyFrom 0 = .ok (.aload_n 1, 1) := by decide +kernel
theorem dX5_copyFrom_1 : decode cX5_copyFrom 1 = .ok (.getfield 9, 3) := by decide +kernel
theorem dX5_copyFrom_4 : decode cX5_copyFrom 4 = .ok (.iconst 0, 1) := by decide +kernel
theorem dX5_copyFrom_5 : decode cX5_copyFrom 5 = .ok (.aload_n 0, 1) := by decide +kernel
theorem dX5_copyFrom_6 : decode cX5_copyFrom 6 = .ok (.getfield 9, 3) := by decide +kernel
theorem dX5_copyFrom_9 : decode cX5_copyFrom 9 = .ok (.iconst 0, 1) := by decide +kernel
theorem dX5_copyFrom_10 : decode cX5_copyFrom 10 = .ok (.bipush 64, 2) := by decide +kernel
theorem dX5_copyFrom_12 : decode cX5_copyFrom 12 = .ok (.invokestatic 22, 3) := by decide +kernel
theorem dX5_copyFrom_15 : decode cX5_copyFrom 15 = .ok (.aload_n 0, 1) := by decide +kernel
theorem dX5_copyFrom_16 : decode cX5_copyFrom 16 = .ok (.aload_n 1, 1) := by decide +kernel
theorem dX5_copyFrom_17 : decode cX5_copyFrom 17 = .ok (.getfield 15, 3) := by decide +kernel
theorem dX5_copyFrom_20 : decode cX5_copyFrom 20 = .ok (.putfield 15, 3) := by decide +kernel
theorem dX5_copyFrom_23 : decode cX5_copyFrom 23 = .ok (.aload_n 0, 1) := by decide +kernel
theorem dX5_copyFrom_24 : decode cX5_copyFrom 24 = .ok (.aload_n 1, 1) := by decide +kernel
theorem dX5_copyFrom_25 : decode cX5_copyFrom 25 = .ok (.getfield 19, 3) := by decide +kernel
theorem dX5_copyFrom_28 : decode cX5_copyFrom 28 = .ok (.putfield 19, 3) := by decide +kernel
theorem dX5_copyFrom_31 : decode cX5_copyFrom 31 = .ok (.return_, 1) := by decide +kernel
theorem dX5_firstHash_0 : decode cX5_firstHash 0 = .ok (.iload_n 0, 1) := by decide +kernel
theorem dX5_firstHash_1 : decode cX5_firstHash 1 = .ok (.bipush 63, 2) := by decide +kernel
theorem dX5_firstHash_3 : decode cX5_firstHash 3 = .ok (.iload_n 1, 1) := by decide +kernel
theorem dX5_firstHash_4 : decode cX5_firstHash 4 = .ok (.ishr, 1) := by decide +kernel
theorem dX5_firstHash_5 : decode cX5_firstHash 5 = .ok (.iconst (-1), 1) := by decide +kernel
theorem dX5_firstHash_6 : decode cX5_firstHash 6 = .ok (.ixor, 1) := by decide +kernel
theorem dX5_firstHash_7 : decode cX5_firstHash 7 = .ok (.iand, 1) := by decide +kernel
theorem dX5_firstHash_8 : decode cX5_firstHash 8 = .ok (.ireturn, 1) := by decide +kernel
theorem dX5_lastHash_0 : decode cX5_lastHash 0 = .ok (.iload_n 0, 1) := by decide +kernel
theorem dX5_lastHash_1 : decode cX5_lastHash 1 = .ok (.bipush 63, 2) := by decide +kernel
theorem dX5_lastHash_3 : decode cX5_lastHash 3 = .ok (.iload_n 1, 1) := by decide +kernel
theorem dX5_lastHash_4 : decode cX5_lastHash 4 = .ok (.ishr, 1) := by decide +kernel
theorem dX5_lastHash_5 : decode cX5_lastHash 5 = .ok (.ior, 1) := by decide +kernel
theorem dX5_lastHash_6 : decode cX5_lastHash 6 = .ok (.ireturn, 1) := by decide +kernel
theorem dX5_siblingHash_0 : decode cX5_siblingHash 0 = .ok (.iload_n 0, 1) := by decide +kernel
theorem dX5_siblingHash_1 : decode cX5_siblingHash 1 = .ok (.bipush 64, 2) := by decide +kernel
theorem dX5_siblingHash_3 : decode cX5_siblingHash 3 = .ok (.iload_n 1, 1) := by decide +kernel
theorem dX5_siblingHash_4 : decode cX5_siblingHash 4 = .ok (.ishr, 1) := by decide +kernel
theorem dX5_siblingHash_5 : decode cX5_siblingHash 5 = .ok (.ixor, 1) := by decide +kernel
theorem dX5_siblingHash_6 : decode cX5_siblingHash 6 = .ok (.ireturn, 1) := by decide +kernel
set_option maxRecDepth 20000 in
theorem ggX5_leafCount_X5_firstHash : GoodIn wsX5_leafCount wsX5_firstHash := goodIn_r _ [5] (by decide +kernel) (by decide +kernel)
set_option maxRecDepth 20000 in
theorem gX5_leafCount_X5_firstHash : GoodIn wsX5_leafCount (va_wsS RX5 28 yX5_firstHash wsX5_firstHash) := goodIn_app (goodIn_of _ (by decide +kernel)) ggX5_leafCount_X5_firstHash
theorem dX5_leafCount_0 : decode cX5_leafCount 0 = .ok (.iconst 0, 1) := by decide +kernel
theorem dX5_leafCount_1 : decode cX5_leafCount 1 = .ok (.istore_n 1, 1) := by decide +kernel
theorem dX5_leafCount_2 : decode cX5_leafCount 2 = .ok (.iconst 0, 1) := by decide +kernel
theorem dX5_leafCount_3 : decode cX5_leafCount 3 = .ok (.istore_n 2, 1) := by decide +kernel
theorem dX5_leafCount_4 : decode cX5_leafCount 4 = .ok (.iload_n 2, 1) := by decide +kernel
theorem dX5_leafCount_5 : decode cX5_leafCount 5 = .ok (.bipush 64, 2) := by decide +kernel
theorem dX5_leafCount_7 : decode cX5_leafCount 7 = .ok (.if_icmp .ge 26, 3) := by decide +kernel
theorem dX5_leafCount_10 : decode cX5_leafCount 10 = .ok (.iload_n 2, 1) := by decide +kernel
theorem dX5_leafCount_11 : decode cX5_leafCount 11 = .ok (.aload_n 0, 1) := by decide +kernel
theorem dX5_leafCount_12 : decode cX5_leafCount 12 = .ok (.getfield 9, 3) := by decide +kernel
theorem dX5_leafCount_15 : decode cX5_leafCount 15 = .ok (.iload_n 2, 1) := by decide +kernel
theorem dX5_leafCount_16 : decode cX5_leafCount 16 = .ok (.iaload, 1) := by decide +kernel
theorem dX5_leafCount_17 : decode cX5_leafCount 17 = .ok (.invokestatic 28, 3) := by decide +kernel
theorem dX5_leafCount_20 : decode cX5_leafCount 20 = .ok (.iload_n 2, 1) := by decide +kernel
theorem dX5_leafCount_21 : decode cX5_leafCount 21 = .ok (.if_icmp .ne 6, 3) := by decide +kernel
theorem dX5_leafCount_24 : decode cX5_leafCount 24 = .ok (.iinc 1 1, 3) := by decide +kernel
theorem dX5_leafCount_27 : decode cX5_leafCount 27 = .ok (.iinc 2 1, 3) := by decide +kernel
theorem dX5_leafCount_30 : decode cX5_leafCount 30 = .ok (.goto (-26), 3) := by decide +kernel
theorem dX5_leafCount_33 : decode cX5_leafCount 33 = .ok (.iload_n 1, 1) := by decide +kernel
theorem dX5_leafCount_34 : decode cX5_leafCount 34 = .ok (.ireturn, 1) := by decide +kernel
set_option maxRecDepth 20000 in
theorem ggX5_leafCountIfAdded_X0_countInBranch : GoodIn wsX5_leafCountIfAdded wsX0_countInBranch := goodIn_r _ [6, 7, 8, 9, 10, 11, 12, 13, 14, 15, 16, 5, 17, 18, 19, 28, 29, 30] (by decide +kernel) (by decide +kernel)
set_option maxRecDepth 20000 in
theorem gX5_leafCountIfAdded_X0_countInBranch : GoodIn wsX5_leafCountIfAdded (wsV RX5 32 RX0 yX0_countInBranch wsX0_countInBranch) := goodIn_app (goodIn_of _ (by decide +kernel)) ggX5_leafCountIfAdded_X0_countInBranch
set_option maxRecDepth 20000 in
theorem ggX5_leafCountIfAdded_X5_leafCount : GoodIn wsX5_leafCountIfAdded wsX5_leafCount := goodIn_r _ [23, 1, 24, 8, 9, 10, 25, 26, 27] (by decide +kernel) (by decide +kernel)
set_option maxRecDepth 20000 in
theorem gX5_leafCountIfAdded_X5_leafCount : GoodIn wsX5_leafCountIfAdded (wsV RX5 37 RX5 yX5_leafCount wsX5_leafCount) := goodIn_app (goodIn_of _ (by decide +kernel)) ggX5_leafCountIfAdded_X5_leafCount
theorem dX5_leafCountIfAdded_0 : decode cX5_leafCountIfAdded 0 = .ok (.aload_n 0, 1) := by decide +kernel
theorem dX5_leafCountIfAdded_1 : decode cX5_leafCountIfAdded 1 = .ok (.getfield 9, 3) := by decide +kernel
theorem dX5_leafCountIfAdded_4 : decode cX5_leafCountIfAdded 4 = .ok (.iload_n 1, 1) := by decide +kernel
theorem dX5_leafCountIfAdded_5 : decode cX5_leafCountIfAdded 5 = .ok (.iaload, 1) := by decide +kernel
theorem dX5_leafCountIfAdded_6 : decode cX5_leafCountIfAdded 6 = .ok (.istore_n 3, 1) := by decide +kernel
theorem dX5_leafCountIfAdded_7 : decode cX5_leafCountIfAdded 7 = .ok (.iload_n 3, 1) := by decide +kernel
theorem dX5_leafCountIfAdded_8 : decode cX5_leafCountIfAdded 8 = .ok (.bipush 6, 2) := by decide +kernel
theorem dX5_leafCountIfAdded_10 : decode cX5_leafCountIfAdded 10 = .ok (.if_icmp .ge 21, 3) := by decide +kernel
theorem dX5_leafCountIfAdded_13 : decode cX5_leafCountIfAdded 13 = .ok (.aload_n 2, 1) := by decide +kernel
theorem dX5_leafCountIfAdded_14 : decode cX5_leafCountIfAdded 14 = .ok (.iload_n 1, 1) := by decide +kernel
theorem dX5_leafCountIfAdded_15 : decode cX5_leafCountIfAdded 15 = .ok (.iload_n 3, 1) := by decide +kernel
theorem dX5_leafCountIfAdded_16 : decode cX5_leafCountIfAdded 16 = .ok (.invokevirtual 32, 3) := by decide +kernel
theorem dX5_leafCountIfAdded_19 : decode cX5_leafCountIfAdded 19 = .ok (.iconst 1, 1) := by decide +kernel
theorem dX5_leafCountIfAdded_20 : decode cX5_leafCountIfAdded 20 = .ok (.iadd, 1) := by decide +kernel
theorem dX5_leafCountIfAdded_21 : decode cX5_leafCountIfAdded 21 = .ok (.iconst 4, 1) := by decide +kernel
theorem dX5_leafCountIfAdded_22 : decode cX5_leafCountIfAdded 22 = .ok (.if_icmp .le 9, 3) := by decide +kernel
theorem dX5_leafCountIfAdded_25 : decode cX5_leafCountIfAdded 25 = .ok (.iinc 3 1, 3) := by decide +kernel
theorem dX5_leafCountIfAdded_28 : decode cX5_leafCountIfAdded 28 = .ok (.goto (-21), 3) := by decide +kernel
theorem dX5_leafCountIfAdded_31 : decode cX5_leafCountIfAdded 31 = .ok (.aload_n 0, 1) := by decide +kernel
theorem dX5_leafCountIfAdded_32 : decode cX5_leafCountIfAdded 32 = .ok (.invokevirtual 37, 3) := by decide +kernel
theorem dX5_leafCountIfAdded_35 : decode cX5_leafCountIfAdded 35 = .ok (.iload_n 3, 1) := by decide +kernel
theorem dX5_leafCountIfAdded_36 : decode cX5_leafCountIfAdded 36 = .ok (.iadd, 1) := by decide +kernel
theorem dX5_leafCountIfAdded_37 : decode cX5_leafCountIfAdded 37 = .ok (.aload_n 0, 1) := by decide +kernel
theorem dX5_leafCountIfAdded_38 : decode cX5_leafCountIfAdded 38 = .ok (.getfield 9, 3) := by decide +kernel
theorem dX5_leafCountIfAdded_41 : decode cX5_leafCountIfAdded 41 = .ok (.iload_n 1, 1) := by decide +kernel
theorem dX5_leafCountIfAdded_42 : decode cX5_leafCountIfAdded 42 = .ok (.iaload, 1) := by decide +kernel
theorem dX5_leafCountIfAdded_43 : decode cX5_leafCountIfAdded 43 = .ok (.isub, 1) := by decide +kernel
theorem dX5_leafCountIfAdded_44 : decode cX5_leafCountIfAdded 44 = .ok (.ireturn, 1) := by decide +kernel
set_option maxRecDepth 20000 in
theorem ggX5_splitFrom_X0_countInBranch : GoodIn wsX5_splitFrom wsX0_countInBranch := goodIn_r _ [7, 8, 9, 10, 11, 12, 13, 14, 15, 16, 17, 6, 18, 19, 20, 30, 31, 32] (by decide +kernel) (by decide +kernel)
set_option maxRecDepth 20000 in
theorem gX5_splitFrom_X0_countInBranch : GoodIn wsX5_splitFrom (wsV RX5 32 RX0 yX0_countInBranch wsX0_countInBranch) := goodIn_app (goodIn_of _ (by decide +kernel)) ggX5_splitFrom_X0_countInBranch
set_option maxRecDepth 20000 in
theorem ggX5_splitFrom_X5_setDepth : GoodIn wsX5_splitFrom wsX5_setDepth := goodIn_r _ [24, 1, 25, 13, 10, 14, 26, 9, 11, 27, 28, 29] (by decide +kernel) (by decide +kernel)
set_option maxRecDepth 20000 in
theorem gX5_splitFrom_X5_setDepth : GoodIn wsX5_splitFrom (wsV RX5 41 RX5 yX5_setDepth wsX5_setDepth) := goodIn_app (goodIn_of _ (by decide +kernel)) ggX5_splitFrom_X5_setDepth
theorem dX5_splitFrom_0 : decode cX5_splitFrom 0 = .ok (.aload_n 0, 1) := by decide +kernel
theorem dX5_splitFrom_1 : decode cX5_splitFrom 1 = .ok (.getfield 9, 3) := by decide +kernel
theorem dX5_splitFrom_4 : decode cX5_splitFrom 4 = .ok (.iload_n 1, 1) := by decide +kernel
theorem dX5_splitFrom_5 : decode cX5_splitFrom 5 = .ok (.iaload, 1) := by decide +kernel
theorem dX5_splitFrom_6 : decode cX5_splitFrom 6 = .ok (.istore_n 3, 1) := by decide +kernel
theorem dX5_splitFrom_7 : decode cX5_splitFrom 7 = .ok (.iload_n 3, 1) := by decide +kernel
theorem dX5_splitFrom_8 : decode cX5_splitFrom 8 = .ok (.bipush 6, 2) := by decide +kernel
theorem dX5_splitFrom_10 : decode cX5_splitFrom 10 = .ok (.if_icmp .ge 39, 3) := by decide +kernel
theorem dX5_splitFrom_13 : decode cX5_splitFrom 13 = .ok (.aload_n 2, 1) := by decide +kernel
theorem dX5_splitFrom_14 : decode cX5_splitFrom 14 = .ok (.iload_n 1, 1) := by decide +kernel
theorem dX5_splitFrom_15 : decode cX5_splitFrom 15 = .ok (.iload_n 3, 1) := by decide +kernel
theorem dX5_splitFrom_16 : decode cX5_splitFrom 16 = .ok (.invokevirtual 32, 3) := by decide +kernel
theorem dX5_splitFrom_19 : decode cX5_splitFrom 19 = .ok (.iconst 4, 1) := by decide +kernel
theorem dX5_splitFrom_20 : decode cX5_splitFrom 20 = .ok (.if_icmp .gt 4, 3) := by decide +kernel
theorem dX5_splitFrom_23 : decode cX5_splitFrom 23 = .ok (.return_, 1) := by decide +kernel
theorem dX5_splitFrom_24 : decode cX5_splitFrom 24 = .ok (.aload_n 0, 1) := by decide +kernel
theorem dX5_splitFrom_25 : decode cX5_splitFrom 25 = .ok (.iload_n 1, 1) := by decide +kernel
theorem dX5_splitFrom_26 : decode cX5_splitFrom 26 = .ok (.iload_n 3, 1) := by decide +kernel
theorem dX5_splitFrom_27 : decode cX5_splitFrom 27 = .ok (.iload_n 3, 1) := by decide +kernel
theorem dX5_splitFrom_28 : decode cX5_splitFrom 28 = .ok (.iconst 1, 1) := by decide +kernel
theorem dX5_splitFrom_29 : decode cX5_splitFrom 29 = .ok (.iadd, 1) := by decide +kernel
theorem dX5_splitFrom_30 : decode cX5_splitFrom 30 = .ok (.invokevirtual 41, 3) := by decide +kernel
theorem dX5_splitFrom_33 : decode cX5_splitFrom 33 = .ok (.aload_n 0, 1) := by decide +kernel
theorem dX5_splitFrom_34 : decode cX5_splitFrom 34 = .ok (.dup, 1) := by decide +kernel
theorem dX5_splitFrom_35 : decode cX5_splitFrom 35 = .ok (.getfield 15, 3) := by decide +kernel
theorem dX5_splitFrom_38 : decode cX5_splitFrom 38 = .ok (.iconst 1, 1) := by decide +kernel
theorem dX5_splitFrom_39 : decode cX5_splitFrom 39 = .ok (.iadd, 1) := by decide +kernel
theorem dX5_splitFrom_40 : decode cX5_splitFrom 40 = .ok (.putfield 15, 3) := by decide +kernel
theorem dX5_splitFrom_43 : decode cX5_splitFrom 43 = .ok (.iinc 3 1, 3) := by decide +kernel
theorem dX5_splitFrom_46 : decode cX5_splitFrom 46 = .ok (.goto (-39), 3) := by decide +kernel
theorem dX5_splitFrom_49 : decode cX5_splitFrom 49 = .ok (.return_, 1) := by decide +kernel
set_option maxRecDepth 20000 in
theorem ggX5_mergeFrom_X5_siblingHash : GoodIn wsX5_mergeFrom wsX5_siblingHash := goodIn_r _ [6] (by decide +kernel) (by decide +kernel)
set_option maxRecDepth 20000 in
theorem gX5_mergeFrom_X5_siblingHash : GoodIn wsX5_mergeFrom (va_wsS RX5 45 yX5_siblingHash wsX5_siblingHash) := goodIn_app (goodIn_of _ (by decide +kernel)) ggX5_mergeFrom_X5_siblingHash
set_option maxRecDepth 20000 in
theorem ggX5_mergeFrom_X0_countInBranch : GoodIn wsX5_mergeFrom wsX0_countInBranch := goodIn_r _ [11, 12, 13, 5, 14, 15, 16, 17, 18, 19, 20, 10, 21, 22, 23, 33, 34, 35] (by decide +kernel) (by decide +kernel)
set_option maxRecDepth 20000 in
theorem gX5_mergeFrom_X0_countInBranch : GoodIn wsX5_mergeFrom (wsV RX5 32 RX0 yX0_countInBranch wsX0_countInBranch) := goodIn_app (goodIn_of _ (by decide +kernel)) ggX5_mergeFrom_X0_countInBranch
set_option maxRecDepth 20000 in
theorem ggX5_mergeFrom_X5_setDepth : GoodIn wsX5_mergeFrom wsX5_setDepth := goodIn_r _ [27, 1, 28, 16, 5, 17, 29, 13, 14, 30, 31, 32] (by decide +kernel) (by decide +kernel)
set_option maxRecDepth 20000 in
theorem gX5_mergeFrom_X5_setDepth : GoodIn wsX5_mergeFrom (wsV RX5 41 RX5 yX5_setDepth wsX5_setDepth) := goodIn_app (goodIn_of _ (by decide +kernel)) ggX5_mergeFrom_X5_setDepth
theorem dX5_mergeFrom_0 : decode cX5_mergeFrom 0 = .ok (.aload_n 0, 1) := by decide +kernel
theorem dX5_mergeFrom_1 : decode cX5_mergeFrom 1 = .ok (.getfield 9, 3) := by decide +kernel
theorem dX5_mergeFrom_4 : decode cX5_mergeFrom 4 = .ok (.iload_n 1, 1) := by decide +kernel
theorem dX5_mergeFrom_5 : decode cX5_mergeFrom 5 = .ok (.iaload, 1) := by decide +kernel
theorem dX5_mergeFrom_6 : decode cX5_mergeFrom 6 = .ok (.istore_n 3, 1) := by decide +kernel
theorem dX5_mergeFrom_7 : decode cX5_mergeFrom 7 = .ok (.iload_n 3, 1) := by decide +kernel
theorem dX5_mergeFrom_8 : decode cX5_mergeFrom 8 = .ok (.ifCond .le 69, 3) := by decide +kernel
theorem dX5_mergeFrom_11 : decode cX5_mergeFrom 11 = .ok (.aload_n 0, 1) := by decide +kernel
theorem dX5_mergeFrom_12 : decode cX5_mergeFrom 12 = .ok (.getfield 9, 3) := by decide +kernel
theorem dX5_mergeFrom_15 : decode cX5_mergeFrom 15 = .ok (.iload_n 1, 1) := by decide +kernel
theorem dX5_mergeFrom_16 : decode cX5_mergeFrom 16 = .ok (.iload_n 3, 1) := by decide +kernel
theorem dX5_mergeFrom_17 : decode cX5_mergeFrom 17 = .ok (.invokestatic 45, 3) := by decide +kernel
theorem dX5_mergeFrom_20 : decode cX5_mergeFrom 20 = .ok (.iaload, 1) := by decide +kernel
theorem dX5_mergeFrom_21 : decode cX5_mergeFrom 21 = .ok (.iload_n 3, 1) := by decide +kernel
theorem dX5_mergeFrom_22 : decode cX5_mergeFrom 22 = .ok (.if_icmp .ne 7, 3) := by decide +kernel
theorem dX5_mergeFrom_25 : decode cX5_mergeFrom 25 = .ok (.iconst 1, 1) := by decide +kernel
theorem dX5_mergeFrom_26 : decode cX5_mergeFrom 26 = .ok (.goto 4, 3) := by decide +kernel
theorem dX5_mergeFrom_29 : decode cX5_mergeFrom 29 = .ok (.iconst 0, 1) := by decide +kernel
theorem dX5_mergeFrom_30 : decode cX5_mergeFrom 30 = .ok (.istore 4, 2) := by decide +kernel
theorem dX5_mergeFrom_32 : decode cX5_mergeFrom 32 = .ok (.iload 4, 2) := by decide +kernel
theorem dX5_mergeFrom_34 : decode cX5_mergeFrom 34 = .ok (.ifCond .eq 15, 3) := by decide +kernel
theorem dX5_mergeFrom_37 : decode cX5_mergeFrom 37 = .ok (.aload_n 2, 1) := by decide +kernel
theorem dX5_mergeFrom_38 : decode cX5_mergeFrom 38 = .ok (.iload_n 1, 1) := by decide +kernel
theorem dX5_mergeFrom_39 : decode cX5_mergeFrom 39 = .ok (.iload_n 3, 1) := by decide +kernel
theorem dX5_mergeFrom_40 : decode cX5_mergeFrom 40 = .ok (.iconst 1, 1) := by decide +kernel
theorem dX5_mergeFrom_41 : decode cX5_mergeFrom 41 = .ok (.isub, 1) := by decide +kernel
theorem dX5_mergeFrom_42 : decode cX5_mergeFrom 42 = .ok (.invokevirtual 32, 3) := by decide +kernel
theorem dX5_mergeFrom_45 : decode cX5_mergeFrom 45 = .ok (.iconst 2, 1) := by decide +kernel
theorem dX5_mergeFrom_46 : decode cX5_mergeFrom 46 = .ok (.if_icmp .le 4, 3) := by decide +kernel
theorem dX5_mergeFrom_49 : decode cX5_mergeFrom 49 = .ok (.return_, 1) := by decide +kernel
theorem dX5_mergeFrom_50 : decode cX5_mergeFrom 50 = .ok (.aload_n 0, 1) := by decide +kernel
theorem dX5_mergeFrom_51 : decode cX5_mergeFrom 51 = .ok (.iload_n 1, 1) := by decide +kernel
theorem dX5_mergeFrom_52 : decode cX5_mergeFrom 52 = .ok (.iload_n 3, 1) := by decide +kernel
theorem dX5_mergeFrom_53 : decode cX5_mergeFrom 53 = .ok (.iconst 1, 1) := by decide +kernel
theorem dX5_mergeFrom_54 : decode cX5_mergeFrom 54 = .ok (.isub, 1) := by decide +kernel
theorem dX5_mergeFrom_55 : decode cX5_mergeFrom 55 = .ok (.iload_n 3, 1) := by decide +kernel
theorem dX5_mergeFrom_56 : decode cX5_mergeFrom 56 = .ok (.iconst 1, 1) := by decide +kernel
theorem dX5_mergeFrom_57 : decode cX5_mergeFrom 57 = .ok (.isub, 1) := by decide +kernel
theorem dX5_mergeFrom_58 : decode cX5_mergeFrom 58 = .ok (.invokevirtual 41, 3) := by decide +kernel
theorem dX5_mergeFrom_61 : decode cX5_mergeFrom 61 = .ok (.aload_n 0, 1) := by decide +kernel
theorem dX5_mergeFrom_62 : decode cX5_mergeFrom 62 = .ok (.dup, 1) := by decide +kernel
theorem dX5_mergeFrom_63 : decode cX5_mergeFrom 63 = .ok (.getfield 19, 3) := by decide +kernel
theorem dX5_mergeFrom_66 : decode cX5_mergeFrom 66 = .ok (.iconst 1, 1) := by decide +kernel
theorem dX5_mergeFrom_67 : decode cX5_mergeFrom 67 = .ok (.iadd, 1) := by decide +kernel
theorem dX5_mergeFrom_68 : decode cX5_mergeFrom 68 = .ok (.putfield 19, 3) := by decide +kernel
theorem dX5_mergeFrom_71 : decode cX5_mergeFrom 71 = .ok (.iinc 3 (-1), 3) := by decide +kernel
theorem dX5_mergeFrom_74 : decode cX5_mergeFrom 74 = .ok (.goto (-67), 3) := by decide +kernel
theorem dX5_mergeFrom_77 : decode cX5_mergeFrom 77 = .ok (.return_, 1) := by decide +kernel
set_option maxRecDepth 20000 in
theorem ggX5_setDepth_X5_lastHash : GoodIn wsX5_setDepth wsX5_lastHash := goodIn_r _ [5] (by decide +kernel) (by decide +kernel)
set_option maxRecDepth 20000 in
theorem gX5_setDepth_X5_lastHash : GoodIn wsX5_setDepth (va_wsS RX5 48 yX5_lastHash wsX5_lastHash) := goodIn_app (goodIn_of _ (by decide +kernel)) ggX5_setDepth_X5_lastHash
set_option maxRecDepth 20000 in
theorem ggX5_setDepth_X5_firstHash : GoodIn wsX5_setDepth wsX5_firstHash := goodIn_r _ [8] (by decide +kernel) (by decide +kernel)
set_option maxRecDepth 20000 in
theorem gX5_setDepth_X5_firstHash : GoodIn wsX5_setDepth (va_wsS RX5 28 yX5_firstHash wsX5_firstHash) := goodIn_app (goodIn_of _ (by decide +kernel)) ggX5_setDepth_X5_firstHash
theorem dX5_setDepth_0 : decode cX5_setDepth 0 = .ok (.iload_n 1, 1) := by decide +kernel
theorem dX5_setDepth_1 : decode cX5_setDepth 1 = .ok (.iload_n 2, 1) := by decide +kernel
theorem dX5_setDepth_2 : decode cX5_setDepth 2 = .ok (.invokestatic 48, 3) := by decide +kernel
theorem dX5_setDepth_5 : decode cX5_setDepth 5 = .ok (.istore 4, 2) := by decide +kernel
theorem dX5_setDepth_7 : decode cX5_setDepth 7 = .ok (.iload_n 1, 1) := by decide +kernel
theorem dX5_setDepth_8 : decode cX5_setDepth 8 = .ok (.iload_n 2, 1) := by decide +kernel
theorem dX5_setDepth_9 : decode cX5_setDepth 9 = .ok (.invokestatic 28, 3) := by decide +kernel
theorem dX5_setDepth_12 : decode cX5_setDepth 12 = .ok (.istore 5, 2) := by decide +kernel
theorem dX5_setDepth_14 : decode cX5_setDepth 14 = .ok (.iload 5, 2) := by decide +kernel
theorem dX5_setDepth_16 : decode cX5_setDepth 16 = .ok (.iload 4, 2) := by decide +kernel
theorem dX5_setDepth_18 : decode cX5_setDepth 18 = .ok (.if_icmp .gt 17, 3) := by decide +kernel
theorem dX5_setDepth_21 : decode cX5_setDepth 21 = .ok (.aload_n 0, 1) := by decide +kernel
theorem dX5_setDepth_22 : decode cX5_setDepth 22 = .ok (.getfield 9, 3) := by decide +kernel
theorem dX5_setDepth_25 : decode cX5_setDepth 25 = .ok (.iload 5, 2) := by decide +kernel
theorem dX5_setDepth_27 : decode cX5_setDepth 27 = .ok (.iload_n 3, 1) := by decide +kernel
theorem dX5_setDepth_28 : decode cX5_setDepth 28 = .ok (.iastore, 1) := by decide +kernel
theorem dX5_setDepth_29 : decode cX5_setDepth 29 = .ok (.iinc 5 1, 3) := by decide +kernel
theorem dX5_setDepth_32 : decode cX5_setDepth 32 = .ok (.goto (-18), 3) := by decide +kernel
theorem dX5_setDepth_35 : decode cX5_setDepth 35 = .ok (.return_, 1) := by decide +kernel
set_option maxRecDepth 20000 in
theorem ggX6_init_X3_init : GoodIn wsX6_init wsX3_init := goodIn_r _ [21, 22, 2, 3, 23, 24, 25, 26, 27, 28, 29, 30, 31, 32, 33, 34, 35, 36, 37, 38, 39, 40, 41, 42, 43, 44, 45, 74, 75, 76, 60, 61, 62, 63, 77, 78, 79] (by decide +kernel) (by decide +kernel)
set_option maxRecDepth 20000 in
theorem gX6_init_X3_init : GoodIn wsX6_init (wsX3_init) := ggX6_init_X3_init
set_option maxRecDepth 20000 in
theorem ggX6_init_X1_init : GoodIn wsX6_init wsX1_init := goodIn_r _ [48, 49, 2, 3, 50, 51, 52, 53, 5, 6, 54, 20, 21, 22, 23, 24, 25, 26, 27, 28, 29, 30, 31, 32, 33, 34, 35, 36, 37, 38, 39, 40, 41, 42, 43, 44, 45, 69, 70, 71, 60, 61, 62, 63, 74, 75, 76, 77, 78, 79] (by decide +kernel) (by decide +kernel)
set_option maxRecDepth 20000 in
theorem gX6_init_X1_init : GoodIn wsX6_init (wsX1_init) := ggX6_init_X1_init
set_option maxRecDepth 20000 in
theorem ggX6_init_X4_init : GoodIn wsX6_init wsX4_init := goodIn_r _ [56, 57, 2, 3, 31, 58, 59, 72, 73] (by decide +kernel) (by decide +kernel)
set_option maxRecDepth 20000 in
theorem gX6_init_X4_init_n33 : GoodIn wsX6_init (wsX4_init) := ggX6_init_X4_init
theorem dX6_init_0 : decode cX6_init 0 = .ok (.aload_n 0, 1) := by decide +kernel
theorem dX6_init_1 : decode cX6_init 1 = .ok (.invokespecial 3, 3) := by decide +kernel
theorem dX6_init_4 : decode cX6_init 4 = .ok (.aload_n 0, 1) := by decide +kernel
theorem dX6_init_5 : decode cX6_init 5 = .ok (.new 9, 3) := by decide +kernel
theorem dX6_init_8 : decode cX6_init 8 = .ok (.dup, 1) := by decide +kernel
theorem dX6_init_9 : decode cX6_init 9 = .ok (.invokespecial 11, 3) := by decide +kernel
theorem dX6_init_12 : decode cX6_init 12 = .ok (.putfield 12, 3) := by decide +kernel
theorem dX6_init_15 : decode cX6_init 15 = .ok (.aload_n 0, 1) := by decide +kernel
theorem dX6_init_16 : decode cX6_init 16 = .ok (.new 16, 3) := by decide +kernel
theorem dX6_init_19 : decode cX6_init 19 = .ok (.dup, 1) := by decide +kernel
theorem dX6_init_20 : decode cX6_init 20 = .ok (.invokespecial 18, 3) := by decide +kernel
theorem dX6_init_23 : decode cX6_init 23 = .ok (.putfield 19, 3) := by decide +kernel
theorem dX6_init_26 : decode cX6_init 26 = .ok (.aload_n 0, 1) := by decide +kernel
theorem dX6_init_27 : decode cX6_init 27 = .ok (.iconst 2, 1) := by decide +kernel
theorem dX6_init_28 : decode cX6_init 28 = .ok (.anewarray 9, 3) := by decide +kernel
theorem dX6_init_31 : decode cX6_init 31 = .ok (.putfield 23, 3) := by decide +kernel
theorem dX6_init_34 : decode cX6_init 34 = .ok (.aload_n 0, 1) := by decide +kernel
theorem dX6_init_35 : decode cX6_init 35 = .ok (.iconst 2, 1) := by decide +kernel
theorem dX6_init_36 : decode cX6_init 36 = .ok (.newarray .boolean, 2) := by decide +kernel
theorem dX6_init_38 : decode cX6_init 38 = .ok (.putfield 27, 3) := by decide +kernel
theorem dX6_init_41 : decode cX6_init 41 = .ok (.aload_n 0, 1) := by decide +kernel
theorem dX6_init_42 : decode cX6_init 42 = .ok (.new 31, 3) := by decide +kernel
theorem dX6_init_45 : decode cX6_init 45 = .ok (.dup, 1) := by decide +kernel
theorem dX6_init_46 : decode cX6_init 46 = .ok (.invokespecial 33, 3) := by decide +kernel
theorem dX6_init_49 : decode cX6_init 49 = .ok (.putfield 34, 3) := by decide +kernel
theorem dX6_init_52 : decode cX6_init 52 = .ok (.iconst 0, 1) := by decide +kernel
theorem dX6_init_53 : decode cX6_init 53 = .ok (.istore_n 1, 1) := by decide +kernel
theorem dX6_init_54 : decode cX6_init 54 = .ok (.iload_n 1, 1) := by decide +kernel
theorem dX6_init_55 : decode cX6_init 55 = .ok (.iconst 2, 1) := by decide +kernel
theorem dX6_init_56 : decode cX6_init 56 = .ok (.if_icmp .ge 22, 3) := by decide +kernel
theorem dX6_init_59 : decode cX6_init 59 = .ok (.aload_n 0, 1) := by decide +kernel
theorem dX6_init_60 : decode cX6_init 60 = .ok (.getfield 23, 3) := by decide +kernel
theorem dX6_init_63 : decode cX6_init 63 = .ok (.iload_n 1, 1) := by decide +kernel
theorem dX6_init_64 : decode cX6_init 64 = .ok (.new 9, 3) := by decide +kernel
theorem dX6_init_67 : decode cX6_init 67 = .ok (.dup, 1) := by decide +kernel
theorem dX6_init_68 : decode cX6_init 68 = .ok (.invokespecial 11, 3) := by decide +kernel
theorem dX6_init_71 : decode cX6_init 71 = .ok (.aastore, 1) := by decide +kernel
theorem dX6_init_72 : decode cX6_init 72 = .ok (.iinc 1 1, 3) := by decide +kernel
theorem dX6_init_75 : decode cX6_init 75 = .ok (.goto (-21), 3) := by decide +kernel
theorem dX6_init_78 : decode cX6_init 78 = .ok (.return_, 1) := by decide +kernel
set_option maxRecDepth 20000 in
theorem ggX6_add_X6_nameInText : GoodIn wsX6_add wsX6_nameInText := goodIn_ca (goodIn_r _ [8, 9, 10, 3, 11, 12, 13, 14, 15, 16, 17, 18, 19, 20, 21, 22, 23, 24, 25, 26, 27, 132, 133, 134, 135, 136, 137, 138] (by decide +kernel) (by decide +kernel)) (goodIn_sub (fun _ h => List.mem_cons_of_mem _ (List.mem_append_left _ (List.mem_append_right _ h))) (by decide +kernel))
set_option maxRecDepth 20000 in
theorem gX6_add_X6_nameInText : GoodIn wsX6_add (wsV RX6 38 RX6 yX6_nameInText wsX6_nameInText) := goodIn_app (goodIn_of _ (by decide +kernel)) ggX6_add_X6_nameInText
set_option maxRecDepth 20000 in
theorem ggX6_add_X6_requireAddable : GoodIn wsX6_add wsX6_requireAddable := goodIn_ca (goodIn_r _ [31, 32, 33, 2, 34, 35, 36, 37, 38, 39, 40, 41, 42, 43, 44, 45, 46, 47, 48, 49, 50, 51, 52, 53, 54, 55, 132, 133, 134, 135, 136, 139, 140, 141, 142, 143, 144, 145] (by decide +kernel) (by decide +kernel)) (goodIn_sub (fun _ h => List.mem_cons_of_mem _ (List.mem_append_right _ h)) (by decide +kernel))
set_option maxRecDepth 20000 in
theorem gX6_add_X6_requireAddable : GoodIn wsX6_add (wsV RX6 42 RX6 yX6_requireAddable wsX6_requireAddable) := goodIn_app (goodIn_of _ (by decide +kernel)) ggX6_add_X6_requireAddable
set_option maxRecDepth 20000 in
theorem ggX6_add_X1_push : GoodIn wsX6_add wsX1_push := goodIn_r _ [60, 61, 62, 63, 64, 65, 66, 37, 67, 39, 68, 69, 70, 71, 72, 73, 50, 74, 75, 76, 43, 77, 78, 79, 55, 45, 80, 81, 82, 83, 84, 85, 86, 87, 88, 146, 147, 148, 139, 140, 141, 142, 143, 144, 145, 149, 150, 151] (by decide +kernel) (by decide +kernel)
set_option maxRecDepth 20000 in
theorem gX6_add_X1_push : GoodIn wsX6_add (wsV RX6 46 RX1 yX1_push wsX1_push) := goodIn_app (goodIn_of _ (by decide +kernel)) ggX6_add_X1_push
set_option maxRecDepth 20000 in
theorem ggX6_add_X4_empty : GoodIn wsX6_add wsX4_empty := goodIn_r _ [92, 93, 137, 138] (by decide +kernel) (by decide +kernel)
set_option maxRecDepth 20000 in
theorem gX6_add_X4_empty : GoodIn wsX6_add (wsV RX6 50 RX4 yX4_empty wsX4_empty) := goodIn_app (goodIn_of _ (by decide +kernel)) ggX6_add_X4_empty
set_option maxRecDepth 20000 in
theorem ggX6_add_X3_makeEntry : GoodIn wsX6_add wsX3_makeEntry := goodIn_r _ [97, 50, 39, 68, 98, 99, 20, 100, 101, 102, 103, 25, 26, 27, 104, 105, 106, 43, 107, 45, 78, 55, 108, 109, 110, 111, 112, 113, 114, 83, 115, 85, 87, 116, 117, 118, 119, 120, 121, 122, 123, 124, 125, 126, 127, 128, 129, 130, 131, 139, 140, 141, 142, 143, 144, 145, 149, 150, 151] (by decide +kernel) (by decide +kernel)
set_option maxRecDepth 20000 in
theorem gX6_add_X3_makeEntry : GoodIn wsX6_add (wsV RX6 53 RX3 yX3_makeEntry wsX3_makeEntry) := goodIn_app (goodIn_of _ (by decide +kernel)) ggX6_add_X3_makeEntry
