theorem dX6_add_0 : decode cX6_add 0 = .ok (.aload_n 0, 1) := by decide +kernel
theorem dX6_add_1 : decode cX6_add 1 = .ok (.invokevirtual 38, 3) := by decide +kernel
theorem dX6_add_4 : decode cX6_add 4 = .ok (.istore_n 1, 1) := by decide +kernel
theorem dX6_add_5 : decode cX6_add 5 = .ok (.aload_n 0, 1) := by decide +kernel
theorem dX6_add_6 : decode cX6_add 6 = .ok (.iload_n 1, 1) := by decide +kernel
theorem dX6_add_7 : decode cX6_add 7 = .ok (.invokevirtual 42, 3) := by decide +kernel
theorem dX6_add_10 : decode cX6_add 10 = .ok (.aload_n 0, 1) := by decide +kernel
theorem dX6_add_11 : decode cX6_add 11 = .ok (.getfield 19, 3) := by decide +kernel
theorem dX6_add_14 : decode cX6_add 14 = .ok (.aload_n 0, 1) := by decide +kernel
theorem dX6_add_15 : decode cX6_add 15 = .ok (.getfield 12, 3) := by decide +kernel
theorem dX6_add_18 : decode cX6_add 18 = .ok (.invokevirtual 46, 3) := by decide +kernel
theorem dX6_add_21 : decode cX6_add 21 = .ok (.aload_n 0, 1) := by decide +kernel
theorem dX6_add_22 : decode cX6_add 22 = .ok (.getfield 34, 3) := by decide +kernel
theorem dX6_add_25 : decode cX6_add 25 = .ok (.invokevirtual 50, 3) := by decide +kernel
theorem dX6_add_28 : decode cX6_add 28 = .ok (.aload_n 0, 1) := by decide +kernel
theorem dX6_add_29 : decode cX6_add 29 = .ok (.getfield 12, 3) := by decide +kernel
theorem dX6_add_32 : decode cX6_add 32 = .ok (.iload_n 1, 1) := by decide +kernel
theorem dX6_add_33 : decode cX6_add 33 = .ok (.invokevirtual 53, 3) := by decide +kernel
theorem dX6_add_36 : decode cX6_add 36 = .ok (.ireturn, 1) := by decide +kernel
set_option maxRecDepth 20000 in
theorem ggX6_remove_X6_placeOfEntry : GoodIn wsX6_remove wsX6_placeOfEntry := goodIn_ca (goodIn_r _ [9, 10, 11, 2, 3, 12, 13, 14, 15, 16, 17, 18, 19, 20, 21, 22, 98, 99, 100, 101, 102, 103, 104, 105, 106, 107, 108, 109] (by decide +kernel) (by decide +kernel)) (goodIn_sub (fun _ h => List.mem_cons_of_mem _ (List.mem_append_right _ h)) (by decide +kernel))
set_option maxRecDepth 20000 in
theorem gX6_remove_X6_placeOfEntry : GoodIn wsX6_remove (wsV RX6 57 RX6 yX6_placeOfEntry wsX6_placeOfEntry) := goodIn_app (goodIn_of _ (by decide +kernel)) ggX6_remove_X6_placeOfEntry
set_option maxRecDepth 20000 in
theorem ggX6_remove_X1_push : GoodIn wsX6_remove wsX1_push := goodIn_r _ [27, 28, 29, 30, 31, 32, 33, 34, 35, 36, 37, 38, 39, 40, 41, 42, 43, 44, 45, 46, 15, 47, 22, 48, 49, 17, 50, 51, 52, 53, 54, 55, 56, 57, 58, 110, 111, 112, 103, 104, 105, 106, 107, 108, 109, 113, 114, 115] (by decide +kernel) (by decide +kernel)
set_option maxRecDepth 20000 in
theorem gX6_remove_X1_push : GoodIn wsX6_remove (wsV RX6 46 RX1 yX1_push wsX1_push) := goodIn_app (goodIn_of _ (by decide +kernel)) ggX6_remove_X1_push
set_option maxRecDepth 20000 in
theorem ggX6_remove_X3_dropEntry : GoodIn wsX6_remove wsX3_dropEntry := goodIn_r _ [62, 36, 37, 63, 64, 65, 15, 66, 22, 67, 68, 69, 70, 17, 49, 71, 72, 73, 53, 74, 55, 58, 75, 76, 77, 78, 79, 80, 81, 82, 83, 84, 85, 86, 87, 88, 89, 90, 91, 92, 93, 94, 95, 96, 97, 103, 104, 105, 106, 107, 108, 109, 113, 114, 115] (by decide +kernel) (by decide +kernel)
set_option maxRecDepth 20000 in
theorem gX6_remove_X3_dropEntry : GoodIn wsX6_remove (wsV RX6 60 RX3 yX3_dropEntry wsX3_dropEntry) := goodIn_app (goodIn_of _ (by decide +kernel)) ggX6_remove_X3_dropEntry
theorem dX6_remove_0 : decode cX6_remove 0 = .ok (.aload_n 0, 1) := by decide +kernel
theorem dX6_remove_1 : decode cX6_remove 1 = .ok (.iload_n 1, 1) := by decide +kernel
theorem dX6_remove_2 : decode cX6_remove 2 = .ok (.invokevirtual 57, 3) := by decide +kernel
theorem dX6_remove_5 : decode cX6_remove 5 = .ok (.istore_n 2, 1) := by decide +kernel
theorem dX6_remove_6 : decode cX6_remove 6 = .ok (.aload_n 0, 1) := by decide +kernel
theorem dX6_remove_7 : decode cX6_remove 7 = .ok (.getfield 19, 3) := by decide +kernel
theorem dX6_remove_10 : decode cX6_remove 10 = .ok (.aload_n 0, 1) := by decide +kernel
theorem dX6_remove_11 : decode cX6_remove 11 = .ok (.getfield 12, 3) := by decide +kernel
theorem dX6_remove_14 : decode cX6_remove 14 = .ok (.invokevirtual 46, 3) := by decide +kernel
theorem dX6_remove_17 : decode cX6_remove 17 = .ok (.aload_n 0, 1) := by decide +kernel
theorem dX6_remove_18 : decode cX6_remove 18 = .ok (.getfield 12, 3) := by decide +kernel
theorem dX6_remove_21 : decode cX6_remove 21 = .ok (.iload_n 2, 1) := by decide +kernel
theorem dX6_remove_22 : decode cX6_remove 22 = .ok (.invokevirtual 60, 3) := by decide +kernel
theorem dX6_remove_25 : decode cX6_remove 25 = .ok (.aload_n 0, 1) := by decide +kernel
theorem dX6_remove_26 : decode cX6_remove 26 = .ok (.getfield 12, 3) := by decide +kernel
theorem dX6_remove_29 : decode cX6_remove 29 = .ok (.getfield 63, 3) := by decide +kernel
theorem dX6_remove_32 : decode cX6_remove 32 = .ok (.getfield 67, 3) := by decide +kernel
theorem dX6_remove_35 : decode cX6_remove 35 = .ok (.ireturn, 1) := by decide +kernel
set_option maxRecDepth 20000 in
theorem ggX6_rename_X6_placeOfEntry : GoodIn wsX6_rename wsX6_placeOfEntry := goodIn_ca (goodIn_r _ [10, 11, 12, 3, 13, 14, 15, 16, 17, 18, 19, 20, 21, 22, 23, 24, 154, 155, 156, 157, 158, 159, 160, 161, 162, 163, 164, 165] (by decide +kernel) (by decide +kernel)) (goodIn_sub (fun _ h => List.mem_cons_of_mem _ (List.mem_append_left _ (List.mem_append_right _ h))) (by decide +kernel))
set_option maxRecDepth 20000 in
theorem gX6_rename_X6_placeOfEntry : GoodIn wsX6_rename (wsV RX6 57 RX6 yX6_placeOfEntry wsX6_placeOfEntry) := goodIn_app (goodIn_of _ (by decide +kernel)) ggX6_rename_X6_placeOfEntry
set_option maxRecDepth 20000 in
theorem ggX6_rename_X6_nameInText : GoodIn wsX6_rename wsX6_nameInText := goodIn_ca (goodIn_r _ [28, 29, 30, 5, 31, 32, 33, 34, 35, 36, 37, 38, 39, 40, 41, 42, 43, 44, 45, 46, 47, 154, 155, 156, 157, 158, 166, 167] (by decide +kernel) (by decide +kernel)) (goodIn_sub (fun _ h => List.mem_cons_of_mem _ (List.mem_append_right _ h)) (by decide +kernel))
set_option maxRecDepth 20000 in
theorem gX6_rename_X6_nameInText : GoodIn wsX6_rename (wsV RX6 38 RX6 yX6_nameInText wsX6_nameInText) := goodIn_app (goodIn_of _ (by decide +kernel)) ggX6_rename_X6_nameInText
set_option maxRecDepth 20000 in
theorem ggX6_rename_X3_canRenameTo : GoodIn wsX6_rename wsX3_canRenameTo := goodIn_r _ [52, 53, 54, 55, 56, 57, 17, 58, 19, 59, 159, 160, 161, 162, 163, 164, 165] (by decide +kernel) (by decide +kernel)
set_option maxRecDepth 20000 in
theorem gX6_rename_X3_canRenameTo : GoodIn wsX6_rename (wsV RX6 73 RX3 yX3_canRenameTo wsX3_canRenameTo) := goodIn_app (goodIn_of _ (by decide +kernel)) ggX6_rename_X3_canRenameTo
set_option maxRecDepth 20000 in
theorem ggX6_rename_X1_push : GoodIn wsX6_rename wsX1_push := goodIn_r _ [64, 65, 66, 67, 68, 69, 70, 51, 71, 54, 72, 73, 74, 75, 76, 77, 53, 78, 79, 80, 17, 81, 24, 82, 59, 19, 83, 84, 85, 86, 87, 88, 89, 90, 91, 168, 169, 170, 159, 160, 161, 162, 163, 164, 165, 171, 172, 173] (by decide +kernel) (by decide +kernel)
set_option maxRecDepth 20000 in
theorem gX6_rename_X1_push : GoodIn wsX6_rename (wsV RX6 46 RX1 yX1_push wsX1_push) := goodIn_app (goodIn_of _ (by decide +kernel)) ggX6_rename_X1_push
set_option maxRecDepth 20000 in
theorem ggX6_rename_X4_empty : GoodIn wsX6_rename wsX4_empty := goodIn_r _ [95, 96, 166, 167] (by decide +kernel) (by decide +kernel)
set_option maxRecDepth 20000 in
theorem gX6_rename_X4_empty : GoodIn wsX6_rename (wsV RX6 50 RX4 yX4_empty wsX4_empty) := goodIn_app (goodIn_of _ (by decide +kernel)) ggX6_rename_X4_empty
set_option maxRecDepth 20000 in
theorem ggX6_rename_X3_dropEntry : GoodIn wsX6_rename wsX3_dropEntry := goodIn_r _ [100, 54, 72, 101, 102, 103, 17, 104, 24, 105, 106, 107, 108, 19, 59, 109, 110, 111, 86, 112, 88, 91, 113, 114, 115, 116, 117, 118, 119, 120, 121, 122, 123, 124, 125, 126, 127, 128, 129, 130, 131, 132, 133, 134, 135, 159, 160, 161, 162, 163, 164, 165, 171, 172, 173] (by decide +kernel) (by decide +kernel)
set_option maxRecDepth 20000 in
theorem gX6_rename_X3_dropEntry : GoodIn wsX6_rename (wsV RX6 60 RX3 yX3_dropEntry wsX3_dropEntry) := goodIn_app (goodIn_of _ (by decide +kernel)) ggX6_rename_X3_dropEntry
set_option maxRecDepth 20000 in
theorem ggX6_rename_X3_makeEntry : GoodIn wsX6_rename wsX3_makeEntry := goodIn_r _ [139, 53, 54, 72, 140, 141, 40, 142, 143, 144, 145, 45, 46, 47, 146, 147, 148, 17, 149, 19, 24, 59, 126, 127, 128, 129, 150, 151, 152, 86, 153, 88, 90, 116, 117, 118, 119, 120, 121, 122, 123, 124, 125, 130, 131, 132, 133, 134, 135, 159, 160, 161, 162, 163, 164, 165, 171, 172, 173] (by decide +kernel) (by decide +kernel)
set_option maxRecDepth 20000 in
theorem gX6_rename_X3_makeEntry : GoodIn wsX6_rename (wsV RX6 53 RX3 yX3_makeEntry wsX3_makeEntry) := goodIn_app (goodIn_of _ (by decide +kernel)) ggX6_rename_X3_makeEntry
theorem dX6_rename_0 : decode cX6_rename 0 = .ok (.aload_n 0, 1) := by decide +kernel
theorem dX6_rename_1 : decode cX6_rename 1 = .ok (.iload_n 1, 1) := by decide +kernel
theorem dX6_rename_2 : decode cX6_rename 2 = .ok (.invokevirtual 57, 3) := by decide +kernel
theorem dX6_rename_5 : decode cX6_rename 5 = .ok (.istore_n 2, 1) := by decide +kernel
theorem dX6_rename_6 : decode cX6_rename 6 = .ok (.aload_n 0, 1) := by decide +kernel
theorem dX6_rename_7 : decode cX6_rename 7 = .ok (.invokevirtual 38, 3) := by decide +kernel
theorem dX6_rename_10 : decode cX6_rename 10 = .ok (.istore_n 3, 1) := by decide +kernel
theorem dX6_rename_11 : decode cX6_rename 11 = .ok (.aload_n 0, 1) := by decide +kernel
theorem dX6_rename_12 : decode cX6_rename 12 = .ok (.getfield 12, 3) := by decide +kernel
theorem dX6_rename_15 : decode cX6_rename 15 = .ok (.iload_n 3, 1) := by decide +kernel
theorem dX6_rename_16 : decode cX6_rename 16 = .ok (.invokevirtual 73, 3) := by decide +kernel
theorem dX6_rename_19 : decode cX6_rename 19 = .ok (.ifCond .ne 13, 3) := by decide +kernel
theorem dX6_rename_22 : decode cX6_rename 22 = .ok (.new 77, 3) := by decide +kernel
theorem dX6_rename_25 : decode cX6_rename 25 = .ok (.dup, 1) := by decide +kernel
theorem dX6_rename_26 : decode cX6_rename 26 = .ok (.ldc 79, 2) := by decide +kernel
theorem dX6_rename_28 : decode cX6_rename 28 = .ok (.invokespecial 81, 3) := by decide +kernel
theorem dX6_rename_31 : decode cX6_rename 31 = .ok (.athrow, 1) := by decide +kernel
theorem dX6_rename_32 : decode cX6_rename 32 = .ok (.aload_n 0, 1) := by decide +kernel
theorem dX6_rename_33 : decode cX6_rename 33 = .ok (.getfield 19, 3) := by decide +kernel
theorem dX6_rename_36 : decode cX6_rename 36 = .ok (.aload_n 0, 1) := by decide +kernel
theorem dX6_rename_37 : decode cX6_rename 37 = .ok (.getfield 12, 3) := by decide +kernel
theorem dX6_rename_40 : decode cX6_rename 40 = .ok (.invokevirtual 46, 3) := by decide +kernel
theorem dX6_rename_43 : decode cX6_rename 43 = .ok (.aload_n 0, 1) := by decide +kernel
theorem dX6_rename_44 : decode cX6_rename 44 = .ok (.getfield 34, 3) := by decide +kernel
theorem dX6_rename_47 : decode cX6_rename 47 = .ok (.invokevirtual 50, 3) := by decide +kernel
theorem dX6_rename_50 : decode cX6_rename 50 = .ok (.aload_n 0, 1) := by decide +kernel
theorem dX6_rename_51 : decode cX6_rename 51 = .ok (.getfield 12, 3) := by decide +kernel
theorem dX6_rename_54 : decode cX6_rename 54 = .ok (.iload_n 2, 1) := by decide +kernel
theorem dX6_rename_55 : decode cX6_rename 55 = .ok (.invokevirtual 60, 3) := by decide +kernel
theorem dX6_rename_58 : decode cX6_rename 58 = .ok (.aload_n 0, 1) := by decide +kernel
theorem dX6_rename_59 : decode cX6_rename 59 = .ok (.getfield 12, 3) := by decide +kernel
theorem dX6_rename_62 : decode cX6_rename 62 = .ok (.iload_n 3, 1) := by decide +kernel
theorem dX6_rename_63 : decode cX6_rename 63 = .ok (.invokevirtual 53, 3) := by decide +kernel
theorem dX6_rename_66 : decode cX6_rename 66 = .ok (.ireturn, 1) := by decide +kernel
set_option maxRecDepth 20000 in
theorem ggX6_open_X6_requireReader : GoodIn wsX6_open wsX6_requireReader := goodIn_ca (goodIn_r _ [7, 8, 9] (by decide +kernel) (by decide +kernel)) (goodIn_sub (fun _ h => List.mem_cons_of_mem _ (List.mem_append_right _ h)) (by decide +kernel))
set_option maxRecDepth 20000 in
theorem gX6_open_X6_requireReader : GoodIn wsX6_open (va_wsS RX6 84 yX6_requireReader wsX6_requireReader) := goodIn_app (goodIn_of _ (by decide +kernel)) ggX6_open_X6_requireReader
set_option maxRecDepth 20000 in
theorem ggX6_open_X1_push : GoodIn wsX6_open wsX1_push := goodIn_r _ [14, 15, 16, 17, 18, 19, 20, 21, 22, 23, 24, 25, 26, 27, 28, 29, 30, 31, 32, 33, 34, 35, 36, 37, 38, 39, 40, 41, 42, 43, 44, 45, 46, 47, 48, 66, 67, 68, 62, 63, 64, 65, 69, 70, 71, 72, 73, 74] (by decide +kernel) (by decide +kernel)
set_option maxRecDepth 20000 in
theorem gX6_open_X1_push : GoodIn wsX6_open (wsV RX6 46 RX1 yX1_push wsX1_push) := goodIn_app (goodIn_of _ (by decide +kernel)) ggX6_open_X1_push
set_option maxRecDepth 20000 in
theorem ggX6_open_X3_openReaders : GoodIn wsX6_open wsX3_openReaders := goodIn_r _ [52, 53, 54, 55, 21, 56, 25, 62, 63, 64, 65] (by decide +kernel) (by decide +kernel)
set_option maxRecDepth 20000 in
theorem gX6_open_X3_openReaders : GoodIn wsX6_open (wsV RX6 91 RX3 yX3_openReaders wsX3_openReaders) := goodIn_app (goodIn_of _ (by decide +kernel)) ggX6_open_X3_openReaders
theorem dX6_open_0 : decode cX6_open 0 = .ok (.iload_n 1, 1) := by decide +kernel
theorem dX6_open_1 : decode cX6_open 1 = .ok (.invokestatic 84, 3) := by decide +kernel
theorem dX6_open_4 : decode cX6_open 4 = .ok (.aload_n 0, 1) := by decide +kernel
theorem dX6_open_5 : decode cX6_open 5 = .ok (.getfield 19, 3) := by decide +kernel
theorem dX6_open_8 : decode cX6_open 8 = .ok (.aload_n 0, 1) := by decide +kernel
theorem dX6_open_9 : decode cX6_open 9 = .ok (.getfield 12, 3) := by decide +kernel
theorem dX6_open_12 : decode cX6_open 12 = .ok (.invokevirtual 46, 3) := by decide +kernel
theorem dX6_open_15 : decode cX6_open 15 = .ok (.aload_n 0, 1) := by decide +kernel
theorem dX6_open_16 : decode cX6_open 16 = .ok (.getfield 12, 3) := by decide +kernel
theorem dX6_open_19 : decode cX6_open 19 = .ok (.getfield 87, 3) := by decide +kernel
theorem dX6_open_22 : decode cX6_open 22 = .ok (.iload_n 1, 1) := by decide +kernel
theorem dX6_open_23 : decode cX6_open 23 = .ok (.iconst (-1), 1) := by decide +kernel
theorem dX6_open_24 : decode cX6_open 24 = .ok (.iastore, 1) := by decide +kernel
theorem dX6_open_25 : decode cX6_open 25 = .ok (.aload_n 0, 1) := by decide +kernel
theorem dX6_open_26 : decode cX6_open 26 = .ok (.getfield 12, 3) := by decide +kernel
theorem dX6_open_29 : decode cX6_open 29 = .ok (.invokevirtual 91, 3) := by decide +kernel
theorem dX6_open_32 : decode cX6_open 32 = .ok (.ireturn, 1) := by decide +kernel
set_option maxRecDepth 20000 in
theorem ggX6_close_X6_requireReader : GoodIn wsX6_close wsX6_requireReader := goodIn_ca (goodIn_r _ [7, 8, 9] (by decide +kernel) (by decide +kernel)) (goodIn_sub (fun _ h => List.mem_cons_of_mem _ (List.mem_append_left _ (List.mem_append_right _ h))) (by decide +kernel))
set_option maxRecDepth 20000 in
theorem gX6_close_X6_requireReader : GoodIn wsX6_close (va_wsS RX6 84 yX6_requireReader wsX6_requireReader) := goodIn_app (goodIn_of _ (by decide +kernel)) ggX6_close_X6_requireReader
set_option maxRecDepth 20000 in
theorem ggX6_close_X6_requireOpen : GoodIn wsX6_close wsX6_requireOpen := goodIn_ca (goodIn_r _ [13, 14, 15, 2, 16, 17, 18, 19, 20, 21, 59, 60, 61, 62, 63, 64, 65, 66, 67] (by decide +kernel) (by decide +kernel)) (goodIn_sub (fun _ h => List.mem_cons_of_mem _ (List.mem_append_right _ h)) (by decide +kernel))
set_option maxRecDepth 20000 in
theorem gX6_close_X6_requireOpen : GoodIn wsX6_close (wsV RX6 94 RX6 yX6_requireOpen wsX6_requireOpen) := goodIn_app (goodIn_of _ (by decide +kernel)) ggX6_close_X6_requireOpen
set_option maxRecDepth 20000 in
theorem ggX6_close_X1_push : GoodIn wsX6_close wsX1_push := goodIn_r _ [26, 27, 28, 29, 30, 31, 32, 19, 33, 34, 35, 21, 36, 37, 38, 39, 40, 41, 42, 43, 44, 45, 46, 47, 48, 49, 50, 51, 52, 53, 54, 55, 56, 57, 58, 68, 69, 70, 64, 65, 66, 67, 71, 72, 73, 74, 75, 76] (by decide +kernel) (by decide +kernel)
set_option maxRecDepth 20000 in
theorem gX6_close_X1_push : GoodIn wsX6_close (wsV RX6 46 RX1 yX1_push wsX1_push) := goodIn_app (goodIn_of _ (by decide +kernel)) ggX6_close_X1_push
theorem dX6_close_0 : decode cX6_close 0 = .ok (.iload_n 1, 1) := by decide +kernel
theorem dX6_close_1 : decode cX6_close 1 = .ok (.invokestatic 84, 3) := by decide +kernel
theorem dX6_close_4 : decode cX6_close 4 = .ok (.aload_n 0, 1) := by decide +kernel
theorem dX6_close_5 : decode cX6_close 5 = .ok (.iload_n 1, 1) := by decide +kernel
theorem dX6_close_6 : decode cX6_close 6 = .ok (.invokevirtual 94, 3) := by decide +kernel
theorem dX6_close_9 : decode cX6_close 9 = .ok (.aload_n 0, 1) := by decide +kernel
theorem dX6_close_10 : decode cX6_close 10 = .ok (.getfield 19, 3) := by decide +kernel
theorem dX6_close_13 : decode cX6_close 13 = .ok (.aload_n 0, 1) := by decide +kernel
theorem dX6_close_14 : decode cX6_close 14 = .ok (.getfield 12, 3) := by decide +kernel
theorem dX6_close_17 : decode cX6_close 17 = .ok (.invokevirtual 46, 3) := by decide +kernel
theorem dX6_close_20 : decode cX6_close 20 = .ok (.aload_n 0, 1) := by decide +kernel
theorem dX6_close_21 : decode cX6_close 21 = .ok (.getfield 12, 3) := by decide +kernel
theorem dX6_close_24 : decode cX6_close 24 = .ok (.getfield 87, 3) := by decide +kernel
theorem dX6_close_27 : decode cX6_close 27 = .ok (.iload_n 1, 1) := by decide +kernel
theorem dX6_close_28 : decode cX6_close 28 = .ok (.iaload, 1) := by decide +kernel
theorem dX6_close_29 : decode cX6_close 29 = .ok (.istore_n 2, 1) := by decide +kernel
theorem dX6_close_30 : decode cX6_close 30 = .ok (.aload_n 0, 1) := by decide +kernel
theorem dX6_close_31 : decode cX6_close 31 = .ok (.getfield 12, 3) := by decide +kernel
theorem dX6_close_34 : decode cX6_close 34 = .ok (.getfield 87, 3) := by decide +kernel
theorem dX6_close_37 : decode cX6_close 37 = .ok (.iload_n 1, 1) := by decide +kernel
theorem dX6_close_38 : decode cX6_close 38 = .ok (.bipush (-2), 2) := by decide +kernel
theorem dX6_close_40 : decode cX6_close 40 = .ok (.iastore, 1) := by decide +kernel
theorem dX6_close_41 : decode cX6_close 41 = .ok (.iload_n 2, 1) := by decide +kernel
theorem dX6_close_42 : decode cX6_close 42 = .ok (.ireturn, 1) := by decide +kernel
set_option maxRecDepth 20000 in
theorem ggX6_next_X6_requireReader : GoodIn wsX6_next wsX6_requireReader := goodIn_ca (goodIn_r _ [10, 11, 12] (by decide +kernel) (by decide +kernel)) (goodIn_sub (fun _ h => List.mem_cons_of_mem _ (List.mem_append_left _ (List.mem_append_right _ h))) (by decide +kernel))
set_option maxRecDepth 20000 in
theorem gX6_next_X6_requireReader : GoodIn wsX6_next (va_wsS RX6 84 yX6_requireReader wsX6_requireReader) := goodIn_app (goodIn_of _ (by decide +kernel)) ggX6_next_X6_requireReader
set_option maxRecDepth 20000 in
theorem ggX6_next_X6_requireOpen : GoodIn wsX6_next wsX6_requireOpen := goodIn_ca (goodIn_r _ [16, 17, 18, 2, 19, 20, 21, 22, 23, 24, 74, 75, 76, 77, 78, 79, 80, 81, 82] (by decide +kernel) (by decide +kernel)) (goodIn_sub (fun _ h => List.mem_cons_of_mem _ (List.mem_append_right _ h)) (by decide +kernel))
set_option maxRecDepth 20000 in
theorem gX6_next_X6_requireOpen : GoodIn wsX6_next (wsV RX6 94 RX6 yX6_requireOpen wsX6_requireOpen) := goodIn_app (goodIn_of _ (by decide +kernel)) ggX6_next_X6_requireOpen
set_option maxRecDepth 20000 in
theorem ggX6_next_X1_push : GoodIn wsX6_next wsX1_push := goodIn_r _ [29, 30, 31, 32, 33, 34, 35, 22, 36, 37, 38, 24, 39, 40, 41, 42, 43, 44, 45, 46, 47, 48, 49, 50, 51, 52, 53, 54, 55, 56, 57, 58, 59, 60, 61, 86, 87, 88, 79, 80, 81, 82, 83, 84, 85, 89, 90, 91] (by decide +kernel) (by decide +kernel)
set_option maxRecDepth 20000 in
theorem gX6_next_X1_push : GoodIn wsX6_next (wsV RX6 46 RX1 yX1_push wsX1_push) := goodIn_app (goodIn_of _ (by decide +kernel)) ggX6_next_X1_push
set_option maxRecDepth 20000 in
theorem ggX6_next_X3_nextPlace : GoodIn wsX6_next wsX3_nextPlace := goodIn_r _ [65, 37, 24, 66, 67, 68, 47, 69, 52, 49, 79, 80, 81, 82, 83, 84, 85] (by decide +kernel) (by decide +kernel)
set_option maxRecDepth 20000 in
theorem gX6_next_X3_nextPlace : GoodIn wsX6_next (wsV RX6 97 RX3 yX3_nextPlace wsX3_nextPlace) := goodIn_app (goodIn_of _ (by decide +kernel)) ggX6_next_X3_nextPlace
set_option maxRecDepth 20000 in
theorem ggX6_next_X0_idIn : GoodIn wsX6_next wsX0_idIn := goodIn_r _ [73, 49, 83, 84, 85] (by decide +kernel) (by decide +kernel)
set_option maxRecDepth 20000 in
theorem gX6_next_X0_idIn : GoodIn wsX6_next (wsV RX6 103 RX0 yX0_idIn wsX0_idIn) := goodIn_app (goodIn_of _ (by decide +kernel)) ggX6_next_X0_idIn
theorem dX6_next_0 : decode cX6_next 0 = .ok (.iload_n 1, 1) := by decide +kernel
theorem dX6_next_1 : decode cX6_next 1 = .ok (.invokestatic 84, 3) := by decide +kernel
theorem dX6_next_4 : decode cX6_next 4 = .ok (.aload_n 0, 1) := by decide +kernel
theorem dX6_next_5 : decode cX6_next 5 = .ok (.iload_n 1, 1) := by decide +kernel
theorem dX6_next_6 : decode cX6_next 6 = .ok (.invokevirtual 94, 3) := by decide +kernel
theorem dX6_next_9 : decode cX6_next 9 = .ok (.aload_n 0, 1) := by decide +kernel
theorem dX6_next_10 : decode cX6_next 10 = .ok (.getfield 19, 3) := by decide +kernel
theorem dX6_next_13 : decode cX6_next 13 = .ok (.aload_n 0, 1) := by decide +kernel
theorem dX6_next_14 : decode cX6_next 14 = .ok (.getfield 12, 3) := by decide +kernel
theorem dX6_next_17 : decode cX6_next 17 = .ok (.invokevirtual 46, 3) := by decide +kernel
theorem dX6_next_20 : decode cX6_next 20 = .ok (.aload_n 0, 1) := by decide +kernel
theorem dX6_next_21 : decode cX6_next 21 = .ok (.getfield 12, 3) := by decide +kernel
theorem dX6_next_24 : decode cX6_next 24 = .ok (.iload_n 1, 1) := by decide +kernel
theorem dX6_next_25 : decode cX6_next 25 = .ok (.invokevirtual 97, 3) := by decide +kernel
theorem dX6_next_28 : decode cX6_next 28 = .ok (.istore_n 2, 1) := by decide +kernel
theorem dX6_next_29 : decode cX6_next 29 = .ok (.iload_n 2, 1) := by decide +kernel
theorem dX6_next_30 : decode cX6_next 30 = .ok (.aload_n 0, 1) := by decide +kernel
theorem dX6_next_31 : decode cX6_next 31 = .ok (.getfield 12, 3) := by decide +kernel
theorem dX6_next_34 : decode cX6_next 34 = .ok (.getfield 63, 3) := by decide +kernel
theorem dX6_next_37 : decode cX6_next 37 = .ok (.getfield 67, 3) := by decide +kernel
theorem dX6_next_40 : decode cX6_next 40 = .ok (.if_icmp .lt 6, 3) := by decide +kernel
theorem dX6_next_43 : decode cX6_next 43 = .ok (.bipush (-2), 2) := by decide +kernel
theorem dX6_next_45 : decode cX6_next 45 = .ok (.ireturn, 1) := by decide +kernel
theorem dX6_next_46 : decode cX6_next 46 = .ok (.aload_n 0, 1) := by decide +kernel
theorem dX6_next_47 : decode cX6_next 47 = .ok (.getfield 12, 3) := by decide +kernel
theorem dX6_next_50 : decode cX6_next 50 = .ok (.getfield 87, 3) := by decide +kernel
theorem dX6_next_53 : decode cX6_next 53 = .ok (.iload_n 1, 1) := by decide +kernel
theorem dX6_next_54 : decode cX6_next 54 = .ok (.aload_n 0, 1) := by decide +kernel
theorem dX6_next_55 : decode cX6_next 55 = .ok (.getfield 12, 3) := by decide +kernel
theorem dX6_next_58 : decode cX6_next 58 = .ok (.getfield 63, 3) := by decide +kernel
theorem dX6_next_61 : decode cX6_next 61 = .ok (.getfield 100, 3) := by decide +kernel
theorem dX6_next_64 : decode cX6_next 64 = .ok (.iload_n 2, 1) := by decide +kernel
theorem dX6_next_65 : decode cX6_next 65 = .ok (.iaload, 1) := by decide +kernel
theorem dX6_next_66 : decode cX6_next 66 = .ok (.iastore, 1) := by decide +kernel
theorem dX6_next_67 : decode cX6_next 67 = .ok (.aload_n 0, 1) := by decide +kernel
theorem dX6_next_68 : decode cX6_next 68 = .ok (.getfield 12, 3) := by decide +kernel
theorem dX6_next_71 : decode cX6_next 71 = .ok (.getfield 63, 3) := by decide +kernel
theorem dX6_next_74 : decode cX6_next 74 = .ok (.iload_n 2, 1) := by decide +kernel
theorem dX6_next_75 : decode cX6_next 75 = .ok (.invokevirtual 103, 3) := by decide +kernel
theorem dX6_next_78 : decode cX6_next 78 = .ok (.ireturn, 1) := by decide +kernel
set_option maxRecDepth 20000 in
theorem ggX6_readLeaf_X6_requireReader : GoodIn wsX6_readLeaf wsX6_requireReader := goodIn_ca (goodIn_r _ [9, 10, 11] (by decide +kernel) (by decide +kernel)) (goodIn_sub (fun _ h => List.mem_cons_of_mem _ (List.mem_append_left _ (List.mem_append_right _ h))) (by decide +kernel))
set_option maxRecDepth 20000 in
theorem gX6_readLeaf_X6_requireReader : GoodIn wsX6_readLeaf (va_wsS RX6 84 yX6_requireReader wsX6_requireReader) := goodIn_app (goodIn_of _ (by decide +kernel)) ggX6_readLeaf_X6_requireReader
set_option maxRecDepth 20000 in
theorem ggX6_readLeaf_X6_requireOpen : GoodIn wsX6_readLeaf wsX6_requireOpen := goodIn_ca (goodIn_r _ [15, 16, 17, 2, 18, 19, 20, 21, 22, 23, 82, 83, 84, 85, 86, 87, 88, 89, 90] (by decide +kernel) (by decide +kernel)) (goodIn_sub (fun _ h => List.mem_cons_of_mem _ (List.mem_append_right _ h)) (by decide +kernel))
set_option maxRecDepth 20000 in
theorem gX6_readLeaf_X6_requireOpen : GoodIn wsX6_readLeaf (wsV RX6 94 RX6 yX6_requireOpen wsX6_requireOpen) := goodIn_app (goodIn_of _ (by decide +kernel)) ggX6_readLeaf_X6_requireOpen
set_option maxRecDepth 20000 in
theorem ggX6_readLeaf_X1_push : GoodIn wsX6_readLeaf wsX1_push := goodIn_r _ [28, 29, 30, 31, 32, 33, 34, 21, 35, 36, 37, 23, 38, 39, 40, 41, 42, 43, 44, 45, 46, 47, 48, 49, 50, 51, 52, 53, 54, 55, 56, 57, 58, 59, 60, 94, 95, 96, 87, 88, 89, 90, 91, 92, 93, 97, 98, 99] (by decide +kernel) (by decide +kernel)
set_option maxRecDepth 20000 in
theorem gX6_readLeaf_X1_push : GoodIn wsX6_readLeaf (wsV RX6 46 RX1 yX1_push wsX1_push) := goodIn_app (goodIn_of _ (by decide +kernel)) ggX6_readLeaf_X1_push
set_option maxRecDepth 20000 in
theorem ggX6_readLeaf_X3_nextPlace : GoodIn wsX6_readLeaf wsX3_nextPlace := goodIn_r _ [64, 36, 23, 65, 66, 67, 46, 68, 51, 48, 87, 88, 89, 90, 91, 92, 93] (by decide +kernel) (by decide +kernel)
set_option maxRecDepth 20000 in
theorem gX6_readLeaf_X3_nextPlace : GoodIn wsX6_readLeaf (wsV RX6 97 RX3 yX3_nextPlace wsX3_nextPlace) := goodIn_app (goodIn_of _ (by decide +kernel)) ggX6_readLeaf_X3_nextPlace
set_option maxRecDepth 20000 in
theorem ggX6_readLeaf_X3_endOfLeafAt : GoodIn wsX6_readLeaf wsX3_endOfLeafAt := goodIn_r _ [72, 36, 73, 37, 74, 75, 76, 77, 46, 78, 48, 79, 80, 55, 81, 65, 66, 67, 68, 51, 87, 88, 89, 90, 91, 92, 93, 97, 98, 99] (by decide +kernel) (by decide +kernel)
set_option maxRecDepth 20000 in
theorem gX6_readLeaf_X3_endOfLeafAt : GoodIn wsX6_readLeaf (wsV RX6 106 RX3 yX3_endOfLeafAt wsX3_endOfLeafAt) := goodIn_app (goodIn_of _ (by decide +kernel)) ggX6_readLeaf_X3_endOfLeafAt
theorem dX6_readLeaf_0 : decode cX6_readLeaf 0 = .ok (.iload_n 1, 1) := by decide +kernel
theorem dX6_readLeaf_1 : decode cX6_readLeaf 1 = .ok (.invokestatic 84, 3) := by decide +kernel
theorem dX6_readLeaf_4 : decode cX6_readLeaf 4 = .ok (.aload_n 0, 1) := by decide +kernel
theorem dX6_readLeaf_5 : decode cX6_readLeaf 5 = .ok (.iload_n 1, 1) := by decide +kernel
theorem dX6_readLeaf_6 : decode cX6_readLeaf 6 = .ok (.invokevirtual 94, 3) := by decide +kernel
theorem dX6_readLeaf_9 : decode cX6_readLeaf 9 = .ok (.aload_n 0, 1) := by decide +kernel
theorem dX6_readLeaf_10 : decode cX6_readLeaf 10 = .ok (.getfield 19, 3) := by decide +kernel
theorem dX6_readLeaf_13 : decode cX6_readLeaf 13 = .ok (.aload_n 0, 1) := by decide +kernel
theorem dX6_readLeaf_14 : decode cX6_readLeaf 14 = .ok (.getfield 12, 3) := by decide +kernel
theorem dX6_readLeaf_17 : decode cX6_readLeaf 17 = .ok (.invokevirtual 46, 3) := by decide +kernel
theorem dX6_readLeaf_20 : decode cX6_readLeaf 20 = .ok (.aload_n 0, 1) := by decide +kernel
theorem dX6_readLeaf_21 : decode cX6_readLeaf 21 = .ok (.getfield 12, 3) := by decide +kernel
theorem dX6_readLeaf_24 : decode cX6_readLeaf 24 = .ok (.iload_n 1, 1) := by decide +kernel
theorem dX6_readLeaf_25 : decode cX6_readLeaf 25 = .ok (.invokevirtual 97, 3) := by decide +kernel
theorem dX6_readLeaf_28 : decode cX6_readLeaf 28 = .ok (.istore_n 2, 1) := by decide +kernel
theorem dX6_readLeaf_29 : decode cX6_readLeaf 29 = .ok (.aload_n 0, 1) := by decide +kernel
theorem dX6_readLeaf_30 : decode cX6_readLeaf 30 = .ok (.getfield 12, 3) := by decide +kernel
theorem dX6_readLeaf_33 : decode cX6_readLeaf 33 = .ok (.iload_n 2, 1) := by decide +kernel
theorem dX6_readLeaf_34 : decode cX6_readLeaf 34 = .ok (.invokevirtual 106, 3) := by decide +kernel
theorem dX6_readLeaf_37 : decode cX6_readLeaf 37 = .ok (.istore_n 3, 1) := by decide +kernel
theorem dX6_readLeaf_38 : decode cX6_readLeaf 38 = .ok (.iload_n 3, 1) := by decide +kernel
theorem dX6_readLeaf_39 : decode cX6_readLeaf 39 = .ok (.iload_n 2, 1) := by decide +kernel
theorem dX6_readLeaf_40 : decode cX6_readLeaf 40 = .ok (.if_icmp .gt 5, 3) := by decide +kernel
theorem dX6_readLeaf_43 : decode cX6_readLeaf 43 = .ok (.iconst 0, 1) := by decide +kernel
theorem dX6_readLeaf_44 : decode cX6_readLeaf 44 = .ok (.ireturn, 1) := by decide +kernel
theorem dX6_readLeaf_45 : decode cX6_readLeaf 45 = .ok (.aload_n 0, 1) := by decide +kernel
theorem dX6_readLeaf_46 : decode cX6_readLeaf 46 = .ok (.getfield 12, 3) := by decide +kernel
theorem dX6_readLeaf_49 : decode cX6_readLeaf 49 = .ok (.getfield 87, 3) := by decide +kernel
theorem dX6_readLeaf_52 : decode cX6_readLeaf 52 = .ok (.iload_n 1, 1) := by decide +kernel
theorem dX6_readLeaf_53 : decode cX6_readLeaf 53 = .ok (.aload_n 0, 1) := by decide +kernel
theorem dX6_readLeaf_54 : decode cX6_readLeaf 54 = .ok (.getfield 12, 3) := by decide +kernel
theorem dX6_readLeaf_57 : decode cX6_readLeaf 57 = .ok (.getfield 63, 3) := by decide +kernel
theorem dX6_readLeaf_60 : decode cX6_readLeaf 60 = .ok (.getfield 100, 3) := by decide +kernel
theorem dX6_readLeaf_63 : decode cX6_readLeaf 63 = .ok (.iload_n 3, 1) := by decide +kernel
theorem dX6_readLeaf_64 : decode cX6_readLeaf 64 = .ok (.iconst 1, 1) := by decide +kernel
theorem dX6_readLeaf_65 : decode cX6_readLeaf 65 = .ok (.isub, 1) := by decide +kernel
theorem dX6_readLeaf_66 : decode cX6_readLeaf 66 = .ok (.iaload, 1) := by decide +kernel
theorem dX6_readLeaf_67 : decode cX6_readLeaf 67 = .ok (.iastore, 1) := by decide +kernel
theorem dX6_readLeaf_68 : decode cX6_readLeaf 68 = .ok (.iload_n 3, 1) := by decide +kernel
theorem dX6_readLeaf_69 : decode cX6_readLeaf 69 = .ok (.iload_n 2, 1) := by decide +kernel
theorem dX6_readLeaf_70 : decode cX6_readLeaf 70 = .ok (.isub, 1) := by decide +kernel
theorem dX6_readLeaf_71 : decode cX6_readLeaf 71 = .ok (.ireturn, 1) := by decide +kernel
set_option maxRecDepth 20000 in
theorem ggX6_seek_X6_requireReader : GoodIn wsX6_seek wsX6_requireReader := goodIn_ca (goodIn_r _ [10, 11, 12] (by decide +kernel) (by decide +kernel)) (goodIn_sub (fun _ h => List.mem_cons_of_mem _ (List.mem_append_left _ (List.mem_append_right _ h))) (by decide +kernel))
set_option maxRecDepth 20000 in
theorem gX6_seek_X6_requireReader : GoodIn wsX6_seek (va_wsS RX6 84 yX6_requireReader wsX6_requireReader) := goodIn_app (goodIn_of _ (by decide +kernel)) ggX6_seek_X6_requireReader
set_option maxRecDepth 20000 in
theorem ggX6_seek_X6_requireOpen : GoodIn wsX6_seek wsX6_requireOpen := goodIn_ca (goodIn_r _ [16, 17, 18, 5, 19, 20, 21, 22, 23, 24, 62, 63, 64, 65, 66, 67, 68, 69, 70] (by decide +kernel) (by decide +kernel)) (goodIn_sub (fun _ h => List.mem_cons_of_mem _ (List.mem_append_right _ h)) (by decide +kernel))
set_option maxRecDepth 20000 in
theorem gX6_seek_X6_requireOpen : GoodIn wsX6_seek (wsV RX6 94 RX6 yX6_requireOpen wsX6_requireOpen) := goodIn_app (goodIn_of _ (by decide +kernel)) ggX6_seek_X6_requireOpen
set_option maxRecDepth 20000 in
theorem ggX6_seek_X1_push : GoodIn wsX6_seek wsX1_push := goodIn_r _ [29, 30, 31, 32, 33, 34, 35, 22, 36, 37, 38, 24, 39, 40, 41, 42, 43, 44, 45, 46, 47, 48, 49, 50, 51, 52, 53, 54, 55, 56, 57, 58, 59, 60, 61, 71, 72, 73, 67, 68, 69, 70, 74, 75, 76, 77, 78, 79] (by decide +kernel) (by decide +kernel)
set_option maxRecDepth 20000 in
theorem gX6_seek_X1_push : GoodIn wsX6_seek (wsV RX6 46 RX1 yX1_push wsX1_push) := goodIn_app (goodIn_of _ (by decide +kernel)) ggX6_seek_X1_push
theorem dX6_seek_0 : decode cX6_seek 0 = .ok (.iload_n 1, 1) := by decide +kernel
theorem dX6_seek_1 : decode cX6_seek 1 = .ok (.invokestatic 84, 3) := by decide +kernel
theorem dX6_seek_4 : decode cX6_seek 4 = .ok (.iload_n 2, 1) := by decide +kernel
theorem dX6_seek_5 : decode cX6_seek 5 = .ok (.iconst (-1), 1) := by decide +kernel
theorem dX6_seek_6 : decode cX6_seek 6 = .ok (.if_icmp .lt 9, 3) := by decide +kernel
theorem dX6_seek_9 : decode cX6_seek 9 = .ok (.iload_n 2, 1) := by decide +kernel
theorem dX6_seek_10 : decode cX6_seek 10 = .ok (.ldc 109, 2) := by decide +kernel
theorem dX6_seek_12 : decode cX6_seek 12 = .ok (.if_icmp .lt 13, 3) := by decide +kernel
theorem dX6_seek_15 : decode cX6_seek 15 = .ok (.new 110, 3) := by decide +kernel
theorem dX6_seek_18 : decode cX6_seek 18 = .ok (.dup, 1) := by decide +kernel
theorem dX6_seek_19 : decode cX6_seek 19 = .ok (.ldc 112, 2) := by decide +kernel
theorem dX6_seek_21 : decode cX6_seek 21 = .ok (.invokespecial 114, 3) := by decide +kernel
theorem dX6_seek_24 : decode cX6_seek 24 = .ok (.athrow, 1) := by decide +kernel
theorem dX6_seek_25 : decode cX6_seek 25 = .ok (.aload_n 0, 1) := by decide +kernel
theorem dX6_seek_26 : decode cX6_seek 26 = .ok (.iload_n 1, 1) := by decide +kernel
theorem dX6_seek_27 : decode cX6_seek 27 = .ok (.invokevirtual 94, 3) := by decide +kernel
theorem dX6_seek_30 : decode cX6_seek 30 = .ok (.aload_n 0, 1) := by decide +kernel
theorem dX6_seek_31 : decode cX6_seek 31 = .ok (.getfield 19, 3) := by decide +kernel
theorem dX6_seek_34 : decode cX6_seek 34 = .ok (.aload_n 0, 1) := by decide +kernel
theorem dX6_seek_35 : decode cX6_seek 35 = .ok (.getfield 12, 3) := by decide +kernel
theorem dX6_seek_38 : decode cX6_seek 38 = .ok (.invokevirtual 46, 3) := by decide +kernel
theorem dX6_seek_41 : decode cX6_seek 41 = .ok (.aload_n 0, 1) := by decide +kernel
theorem dX6_seek_42 : decode cX6_seek 42 = .ok (.getfield 12, 3) := by decide +kernel
theorem dX6_seek_45 : decode cX6_seek 45 = .ok (.getfield 87, 3) := by decide +kernel
theorem dX6_seek_48 : decode cX6_seek 48 = .ok (.iload_n 1, 1) := by decide +kernel
theorem dX6_seek_49 : decode cX6_seek 49 = .ok (.iaload, 1) := by decide +kernel
theorem dX6_seek_50 : decode cX6_seek 50 = .ok (.istore_n 3, 1) := by decide +kernel
theorem dX6_seek_51 : decode cX6_seek 51 = .ok (.aload_n 0, 1) := by decide +kernel
theorem dX6_seek_52 : decode cX6_seek 52 = .ok (.getfield 12, 3) := by decide +kernel
theorem dX6_seek_55 : decode cX6_seek 55 = .ok (.getfield 87, 3) := by decide +kernel
theorem dX6_seek_58 : decode cX6_seek 58 = .ok (.iload_n 1, 1) := by decide +kernel
theorem dX6_seek_59 : decode cX6_seek 59 = .ok (.iload_n 2, 1) := by decide +kernel
theorem dX6_seek_60 : decode cX6_seek 60 = .ok (.iastore, 1) := by decide +kernel
theorem dX6_seek_61 : decode cX6_seek 61 = .ok (.iload_n 3, 1) := by decide +kernel
theorem dX6_seek_62 : decode cX6_seek 62 = .ok (.ireturn, 1) := by decide +kernel
set_option maxRecDepth 20000 in
theorem ggX6_appendText_X4_append : GoodIn wsX6_appendText wsX4_append := goodIn_r _ [11, 12, 13, 19, 20] (by decide +kernel) (by decide +kernel)
set_option maxRecDepth 20000 in
theorem gX6_appendText_X4_append : GoodIn wsX6_appendText (wsV RX6 122 RX4 yX4_append wsX4_append) := goodIn_app (goodIn_of _ (by decide +kernel)) ggX6_appendText_X4_append
theorem dX6_appendText_0 : decode cX6_appendText 0 = .ok (.iload_n 1, 1) := by decide +kernel
theorem dX6_appendText_1 : decode cX6_appendText 1 = .ok (.bipush 32, 2) := by decide +kernel
theorem dX6_appendText_3 : decode cX6_appendText 3 = .ok (.if_icmp .lt 9, 3) := by decide +kernel
theorem dX6_appendText_6 : decode cX6_appendText 6 = .ok (.iload_n 1, 1) := by decide +kernel
theorem dX6_appendText_7 : decode cX6_appendText 7 = .ok (.bipush 126, 2) := by decide +kernel
theorem dX6_appendText_9 : decode cX6_appendText 9 = .ok (.if_icmp .le 13, 3) := by decide +kernel
theorem dX6_appendText_12 : decode cX6_appendText 12 = .ok (.new 110, 3) := by decide +kernel
theorem dX6_appendText_15 : decode cX6_appendText 15 = .ok (.dup, 1) := by decide +kernel
theorem dX6_appendText_16 : decode cX6_appendText 16 = .ok (.ldc 115, 2) := by decide +kernel
theorem dX6_appendText_18 : decode cX6_appendText 18 = .ok (.invokespecial 114, 3) := by decide +kernel
theorem dX6_appendText_21 : decode cX6_appendText 21 = .ok (.athrow, 1) := by decide +kernel
theorem dX6_appendText_22 : decode cX6_appendText 22 = .ok (.aload_n 0, 1) := by decide +kernel
theorem dX6_appendText_23 : decode cX6_appendText 23 = .ok (.getfield 34, 3) := by decide +kernel
theorem dX6_appendText_26 : decode cX6_appendText 26 = .ok (.getfield 117, 3) := by decide +kernel
theorem dX6_appendText_29 : decode cX6_appendText 29 = .ok (.bipush 80, 2) := by decide +kernel
theorem dX6_appendText_31 : decode cX6_appendText 31 = .ok (.if_icmp .lt 13, 3) := by decide +kernel
theorem dX6_appendText_34 : decode cX6_appendText 34 = .ok (.new 77, 3) := by decide +kernel
theorem dX6_appendText_37 : decode cX6_appendText 37 = .ok (.dup, 1) := by decide +kernel
theorem dX6_appendText_38 : decode cX6_appendText 38 = .ok (.ldc 120, 2) := by decide +kernel
theorem dX6_appendText_40 : decode cX6_appendText 40 = .ok (.invokespecial 81, 3) := by decide +kernel
theorem dX6_appendText_43 : decode cX6_appendText 43 = .ok (.athrow, 1) := by decide +kernel
theorem dX6_appendText_44 : decode cX6_appendText 44 = .ok (.aload_n 0, 1) := by decide +kernel
theorem dX6_appendText_45 : decode cX6_appendText 45 = .ok (.getfield 34, 3) := by decide +kernel
theorem dX6_appendText_48 : decode cX6_appendText 48 = .ok (.iload_n 1, 1) := by decide +kernel
theorem dX6_appendText_49 : decode cX6_appendText 49 = .ok (.invokevirtual 122, 3) := by decide +kernel
theorem dX6_appendText_52 : decode cX6_appendText 52 = .ok (.aload_n 0, 1) := by decide +kernel
theorem dX6_appendText_53 : decode cX6_appendText 53 = .ok (.getfield 34, 3) := by decide +kernel
theorem dX6_appendText_56 : decode cX6_appendText 56 = .ok (.getfield 117, 3) := by decide +kernel
theorem dX6_appendText_59 : decode cX6_appendText 59 = .ok (.ireturn, 1) := by decide +kernel
set_option maxRecDepth 20000 in
theorem ggX6_clearText_X4_empty : GoodIn wsX6_clearText wsX4_empty := goodIn_r _ [7, 8, 14, 15] (by decide +kernel) (by decide +kernel)
set_option maxRecDepth 20000 in
theorem gX6_clearText_X4_empty : GoodIn wsX6_clearText (wsV RX6 50 RX4 yX4_empty wsX4_empty) := goodIn_app (goodIn_of _ (by decide +kernel)) ggX6_clearText_X4_empty
theorem dX6_clearText_0 : decode cX6_clearText 0 = .ok (.aload_n 0, 1) := by decide +kernel
theorem dX6_clearText_1 : decode cX6_clearText 1 = .ok (.getfield 34, 3) := by decide +kernel
theorem dX6_clearText_4 : decode cX6_clearText 4 = .ok (.getfield 117, 3) := by decide +kernel
theorem dX6_clearText_7 : decode cX6_clearText 7 = .ok (.istore_n 1, 1) := by decide +kernel
theorem dX6_clearText_8 : decode cX6_clearText 8 = .ok (.aload_n 0, 1) := by decide +kernel
theorem dX6_clearText_9 : decode cX6_clearText 9 = .ok (.getfield 34, 3) := by decide +kernel
theorem dX6_clearText_12 : decode cX6_clearText 12 = .ok (.invokevirtual 50, 3) := by decide +kernel
theorem dX6_clearText_15 : decode cX6_clearText 15 = .ok (.iload_n 1, 1) := by decide +kernel
theorem dX6_clearText_16 : decode cX6_clearText 16 = .ok (.ireturn, 1) := by decide +kernel
set_option maxRecDepth 20000 in
theorem ggX6_undo_X1_popInto : GoodIn wsX6_undo wsX1_popInto := goodIn_r _ [10, 11, 12, 13, 14, 15, 16, 17, 18, 19, 20, 21, 22, 23, 24, 25, 26, 27, 28, 29, 30, 31, 32, 33, 34, 35, 36, 37, 38, 39, 40, 41, 42, 43, 44, 50, 51, 52, 53, 54, 55, 56, 57, 58, 59, 60, 61, 62] (by decide +kernel) (by decide +kernel)
set_option maxRecDepth 20000 in
theorem gX6_undo_X1_popInto : GoodIn wsX6_undo (wsV RX6 140 RX1 yX1_popInto wsX1_popInto) := goodIn_app (goodIn_of _ (by decide +kernel)) ggX6_undo_X1_popInto
theorem dX6_undo_0 : decode cX6_undo 0 = .ok (.aload_n 0, 1) := by decide +kernel
theorem dX6_undo_1 : decode cX6_undo 1 = .ok (.getfield 19, 3) := by decide +kernel
theorem dX6_undo_4 : decode cX6_undo 4 = .ok (.getfield 137, 3) := by decide +kernel
theorem dX6_undo_7 : decode cX6_undo 7 = .ok (.ifCond .ne 13, 3) := by decide +kernel
theorem dX6_undo_10 : decode cX6_undo 10 = .ok (.new 77, 3) := by decide +kernel
theorem dX6_undo_13 : decode cX6_undo 13 = .ok (.dup, 1) := by decide +kernel
theorem dX6_undo_14 : decode cX6_undo 14 = .ok (.ldc 138, 2) := by decide +kernel
theorem dX6_undo_16 : decode cX6_undo 16 = .ok (.invokespecial 81, 3) := by decide +kernel
theorem dX6_undo_19 : decode cX6_undo 19 = .ok (.athrow, 1) := by decide +kernel
theorem dX6_undo_20 : decode cX6_undo 20 = .ok (.aload_n 0, 1) := by decide +kernel
theorem dX6_undo_21 : decode cX6_undo 21 = .ok (.getfield 19, 3) := by decide +kernel
theorem dX6_undo_24 : decode cX6_undo 24 = .ok (.aload_n 0, 1) := by decide +kernel
theorem dX6_undo_25 : decode cX6_undo 25 = .ok (.getfield 12, 3) := by decide +kernel
theorem dX6_undo_28 : decode cX6_undo 28 = .ok (.invokevirtual 140, 3) := by decide +kernel
theorem dX6_undo_31 : decode cX6_undo 31 = .ok (.aload_n 0, 1) := by decide +kernel
theorem dX6_undo_32 : decode cX6_undo 32 = .ok (.getfield 19, 3) := by decide +kernel
theorem dX6_undo_35 : decode cX6_undo 35 = .ok (.getfield 137, 3) := by decide +kernel
theorem dX6_undo_38 : decode cX6_undo 38 = .ok (.ireturn, 1) := by decide +kernel
set_option maxRecDepth 20000 in
theorem ggX6_save_X6_requireSlot : GoodIn wsX6_save wsX6_requireSlot := goodIn_ca (goodIn_r _ [9, 10, 11] (by decide +kernel) (by decide +kernel)) (goodIn_sub (fun _ h => List.mem_cons_of_mem _ (List.mem_append_right _ h)) (by decide +kernel))
set_option maxRecDepth 20000 in
theorem gX6_save_X6_requireSlot : GoodIn wsX6_save (va_wsS RX6 143 yX6_requireSlot wsX6_requireSlot) := goodIn_app (goodIn_of _ (by decide +kernel)) ggX6_save_X6_requireSlot
set_option maxRecDepth 20000 in
theorem ggX6_save_X3_copyFrom : GoodIn wsX6_save wsX3_copyFrom := goodIn_r _ [16, 17, 18, 19, 20, 21, 22, 23, 24, 25, 26, 27, 28, 29, 30, 31, 32, 33, 34, 35, 36, 37, 38, 39, 40, 41, 42, 48, 49, 50, 51, 52, 53, 54, 55, 56, 57] (by decide +kernel) (by decide +kernel)
set_option maxRecDepth 20000 in
theorem gX6_save_X3_copyFrom : GoodIn wsX6_save (wsV RX6 146 RX3 yX3_copyFrom wsX3_copyFrom) := goodIn_app (goodIn_of _ (by decide +kernel)) ggX6_save_X3_copyFrom
theorem dX6_save_0 : decode cX6_save 0 = .ok (.iload_n 1, 1) := by decide +kernel
theorem dX6_save_1 : decode cX6_save 1 = .ok (.invokestatic 143, 3) := by decide +kernel
theorem dX6_save_4 : decode cX6_save 4 = .ok (.aload_n 0, 1) := by decide +kernel
theorem dX6_save_5 : decode cX6_save 5 = .ok (.getfield 23, 3) := by decide +kernel
theorem dX6_save_8 : decode cX6_save 8 = .ok (.iload_n 1, 1) := by decide +kernel
theorem dX6_save_9 : decode cX6_save 9 = .ok (.aaload, 1) := by decide +kernel
theorem dX6_save_10 : decode cX6_save 10 = .ok (.aload_n 0, 1) := by decide +kernel
theorem dX6_save_11 : decode cX6_save 11 = .ok (.getfield 12, 3) := by decide +kernel
theorem dX6_save_14 : decode cX6_save 14 = .ok (.invokevirtual 146, 3) := by decide +kernel
theorem dX6_save_17 : decode cX6_save 17 = .ok (.aload_n 0, 1) := by decide +kernel
theorem dX6_save_18 : decode cX6_save 18 = .ok (.getfield 27, 3) := by decide +kernel
theorem dX6_save_21 : decode cX6_save 21 = .ok (.iload_n 1, 1) := by decide +kernel
theorem dX6_save_22 : decode cX6_save 22 = .ok (.iconst 1, 1) := by decide +kernel
theorem dX6_save_23 : decode cX6_save 23 = .ok (.bastore, 1) := by decide +kernel
theorem dX6_save_24 : decode cX6_save 24 = .ok (.aload_n 0, 1) := by decide +kernel
theorem dX6_save_25 : decode cX6_save 25 = .ok (.getfield 12, 3) := by decide +kernel
theorem dX6_save_28 : decode cX6_save 28 = .ok (.getfield 63, 3) := by decide +kernel
theorem dX6_save_31 : decode cX6_save 31 = .ok (.getfield 67, 3) := by decide +kernel
theorem dX6_save_34 : decode cX6_save 34 = .ok (.ireturn, 1) := by decide +kernel
set_option maxRecDepth 20000 in
theorem ggX6_restore_X6_requireSlot : GoodIn wsX6_restore wsX6_requireSlot := goodIn_ca (goodIn_r _ [12, 13, 14] (by decide +kernel) (by decide +kernel)) (goodIn_sub (fun _ h => List.mem_cons_of_mem _ (List.mem_append_right _ h)) (by decide +kernel))
set_option maxRecDepth 20000 in
theorem gX6_restore_X6_requireSlot : GoodIn wsX6_restore (va_wsS RX6 143 yX6_requireSlot wsX6_requireSlot) := goodIn_app (goodIn_of _ (by decide +kernel)) ggX6_restore_X6_requireSlot
set_option maxRecDepth 20000 in
theorem ggX6_restore_X1_push : GoodIn wsX6_restore wsX1_push := goodIn_r _ [19, 20, 21, 22, 23, 24, 25, 26, 27, 28, 29, 30, 31, 32, 33, 34, 35, 36, 37, 38, 39, 40, 41, 42, 43, 44, 45, 46, 47, 48, 49, 50, 51, 52, 53, 67, 68, 69, 60, 61, 62, 63, 64, 65, 66, 70, 71, 72] (by decide +kernel) (by decide +kernel)
set_option maxRecDepth 20000 in
theorem gX6_restore_X1_push : GoodIn wsX6_restore (wsV RX6 46 RX1 yX1_push wsX1_push) := goodIn_app (goodIn_of _ (by decide +kernel)) ggX6_restore_X1_push
set_option maxRecDepth 20000 in
theorem ggX6_restore_X3_copyFrom : GoodIn wsX6_restore wsX3_copyFrom := goodIn_r _ [27, 28, 29, 30, 31, 32, 33, 34, 35, 36, 37, 38, 39, 40, 41, 42, 43, 44, 45, 46, 47, 48, 49, 50, 51, 52, 53, 60, 61, 62, 63, 64, 65, 66, 70, 71, 72] (by decide +kernel) (by decide +kernel)
set_option maxRecDepth 20000 in
theorem gX6_restore_X3_copyFrom : GoodIn wsX6_restore (wsV RX6 146 RX3 yX3_copyFrom wsX3_copyFrom) := goodIn_app (goodIn_of _ (by decide +kernel)) ggX6_restore_X3_copyFrom
theorem dX6_restore_0 : decode cX6_restore 0 = .ok (.iload_n 1, 1) := by decide +kernel
theorem dX6_restore_1 : decode cX6_restore 1 = .ok (.invokestatic 143, 3) := by decide +kernel
theorem dX6_restore_4 : decode cX6_restore 4 = .ok (.aload_n 0, 1) := by decide +kernel
theorem dX6_restore_5 : decode cX6_restore 5 = .ok (.getfield 27, 3) := by decide +kernel
theorem dX6_restore_8 : decode cX6_restore 8 = .ok (.iload_n 1, 1) := by decide +kernel
theorem dX6_restore_9 : decode cX6_restore 9 = .ok (.baload, 1) := by decide +kernel
theorem dX6_restore_10 : decode cX6_restore 10 = .ok (.ifCond .ne 13, 3) := by decide +kernel
theorem dX6_restore_13 : decode cX6_restore 13 = .ok (.new 77, 3) := by decide +kernel
theorem dX6_restore_16 : decode cX6_restore 16 = .ok (.dup, 1) := by decide +kernel
theorem dX6_restore_17 : decode cX6_restore 17 = .ok (.ldc 149, 2) := by decide +kernel
theorem dX6_restore_19 : decode cX6_restore 19 = .ok (.invokespecial 81, 3) := by decide +kernel
theorem dX6_restore_22 : decode cX6_restore 22 = .ok (.athrow, 1) := by decide +kernel
theorem dX6_restore_23 : decode cX6_restore 23 = .ok (.aload_n 0, 1) := by decide +kernel
theorem dX6_restore_24 : decode cX6_restore 24 = .ok (.getfield 19, 3) := by decide +kernel
theorem dX6_restore_27 : decode cX6_restore 27 = .ok (.aload_n 0, 1) := by decide +kernel
theorem dX6_restore_28 : decode cX6_restore 28 = .ok (.getfield 12, 3) := by decide +kernel
theorem dX6_restore_31 : decode cX6_restore 31 = .ok (.invokevirtual 46, 3) := by decide +kernel
theorem dX6_restore_34 : decode cX6_restore 34 = .ok (.aload_n 0, 1) := by decide +kernel
theorem dX6_restore_35 : decode cX6_restore 35 = .ok (.getfield 12, 3) := by decide +kernel
theorem dX6_restore_38 : decode cX6_restore 38 = .ok (.aload_n 0, 1) := by decide +kernel
theorem dX6_restore_39 : decode cX6_restore 39 = .ok (.getfield 23, 3) := by decide +kernel
theorem dX6_restore_42 : decode cX6_restore 42 = .ok (.iload_n 1, 1) := by decide +kernel
theorem dX6_restore_43 : decode cX6_restore 43 = .ok (.aaload, 1) := by decide +kernel
theorem dX6_restore_44 : decode cX6_restore 44 = .ok (.invokevirtual 146, 3) := by decide +kernel
theorem dX6_restore_47 : decode cX6_restore 47 = .ok (.aload_n 0, 1) := by decide +kernel
theorem dX6_restore_48 : decode cX6_restore 48 = .ok (.getfield 12, 3) := by decide +kernel
theorem dX6_restore_51 : decode cX6_restore 51 = .ok (.getfield 63, 3) := by decide +kernel
theorem dX6_restore_54 : decode cX6_restore 54 = .ok (.getfield 67, 3) := by decide +kernel
theorem dX6_restore_57 : decode cX6_restore 57 = .ok (.ireturn, 1) := by decide +kernel
theorem dX6_entries_0 : decode cX6_entries 0 = .ok (.aload_n 0, 1) := by decide +kernel
theorem dX6_entries_1 : decode cX6_entries 1 = .ok (.getfield 12, 3) := by decide +kernel
theorem dX6_entries_4 : decode cX6_entries 4 = .ok (.getfield 63, 3) := by decide +kernel
theorem dX6_entries_7 : decode cX6_entries 7 = .ok (.getfield 67, 3) := by decide +kernel
theorem dX6_entries_10 : decode cX6_entries 10 = .ok (.ireturn, 1) := by decide +kernel
set_option maxRecDepth 20000 in
theorem ggX6_idAt_X0_idIn : GoodIn wsX6_idAt wsX0_idIn := goodIn_r _ [10, 11, 21, 22, 23] (by decide +kernel) (by decide +kernel)
set_option maxRecDepth 20000 in
theorem gX6_idAt_X0_idIn : GoodIn wsX6_idAt (wsV RX6 103 RX0 yX0_idIn wsX0_idIn) := goodIn_app (goodIn_of _ (by decide +kernel)) ggX6_idAt_X0_idIn
theorem dX6_idAt_0 : decode cX6_idAt 0 = .ok (.iload_n 1, 1) := by decide +kernel
theorem dX6_idAt_1 : decode cX6_idAt 1 = .ok (.ifCond .ge 13, 3) := by decide +kernel
theorem dX6_idAt_4 : decode cX6_idAt 4 = .ok (.new 151, 3) := by decide +kernel
theorem dX6_idAt_7 : decode cX6_idAt 7 = .ok (.dup, 1) := by decide +kernel
theorem dX6_idAt_8 : decode cX6_idAt 8 = .ok (.ldc 153, 2) := by decide +kernel
theorem dX6_idAt_10 : decode cX6_idAt 10 = .ok (.invokespecial 155, 3) := by decide +kernel
theorem dX6_idAt_13 : decode cX6_idAt 13 = .ok (.athrow, 1) := by decide +kernel
theorem dX6_idAt_14 : decode cX6_idAt 14 = .ok (.iload_n 1, 1) := by decide +kernel
theorem dX6_idAt_15 : decode cX6_idAt 15 = .ok (.aload_n 0, 1) := by decide +kernel
theorem dX6_idAt_16 : decode cX6_idAt 16 = .ok (.getfield 12, 3) := by decide +kernel
theorem dX6_idAt_19 : decode cX6_idAt 19 = .ok (.getfield 63, 3) := by decide +kernel
theorem dX6_idAt_22 : decode cX6_idAt 22 = .ok (.getfield 67, 3) := by decide +kernel
theorem dX6_idAt_25 : decode cX6_idAt 25 = .ok (.if_icmp .ge 17, 3) := by decide +kernel
theorem dX6_idAt_28 : decode cX6_idAt 28 = .ok (.aload_n 0, 1) := by decide +kernel
theorem dX6_idAt_29 : decode cX6_idAt 29 = .ok (.getfield 12, 3) := by decide +kernel
theorem dX6_idAt_32 : decode cX6_idAt 32 = .ok (.getfield 63, 3) := by decide +kernel
theorem dX6_idAt_35 : decode cX6_idAt 35 = .ok (.iload_n 1, 1) := by decide +kernel
theorem dX6_idAt_36 : decode cX6_idAt 36 = .ok (.invokevirtual 103, 3) := by decide +kernel
theorem dX6_idAt_39 : decode cX6_idAt 39 = .ok (.goto 5, 3) := by decide +kernel
theorem dX6_idAt_42 : decode cX6_idAt 42 = .ok (.bipush (-2), 2) := by decide +kernel
theorem dX6_idAt_44 : decode cX6_idAt 44 = .ok (.ireturn, 1) := by decide +kernel
set_option maxRecDepth 20000 in
theorem ggX6_find_X6_nameInText : GoodIn wsX6_find wsX6_nameInText := goodIn_ca (goodIn_r _ [7, 8, 9, 10, 11, 12, 13, 14, 15, 16, 17, 18, 19, 20, 21, 22, 23, 24, 25, 26, 27, 40, 41, 42, 43, 44, 49, 50] (by decide +kernel) (by decide +kernel)) (goodIn_sub (fun _ h => List.mem_cons_of_mem _ (List.mem_append_right _ h)) (by decide +kernel))
set_option maxRecDepth 20000 in
theorem gX6_find_X6_nameInText : GoodIn wsX6_find (wsV RX6 38 RX6 yX6_nameInText wsX6_nameInText) := goodIn_app (goodIn_of _ (by decide +kernel)) ggX6_find_X6_nameInText
set_option maxRecDepth 20000 in
theorem ggX6_find_X0_placeOfName : GoodIn wsX6_find wsX0_placeOfName := goodIn_r _ [32, 33, 34, 51, 52, 53] (by decide +kernel) (by decide +kernel)
set_option maxRecDepth 20000 in
theorem gX6_find_X0_placeOfName : GoodIn wsX6_find (wsV RX6 156 RX0 yX0_placeOfName wsX0_placeOfName) := goodIn_app (goodIn_of _ (by decide +kernel)) ggX6_find_X0_placeOfName
set_option maxRecDepth 20000 in
theorem ggX6_find_X0_idIn : GoodIn wsX6_find wsX0_idIn := goodIn_r _ [38, 39, 51, 52, 53] (by decide +kernel) (by decide +kernel)
set_option maxRecDepth 20000 in
theorem gX6_find_X0_idIn : GoodIn wsX6_find (wsV RX6 103 RX0 yX0_idIn wsX0_idIn) := goodIn_app (goodIn_of _ (by decide +kernel)) ggX6_find_X0_idIn
theorem dX6_find_0 : decode cX6_find 0 = .ok (.aload_n 0, 1) := by decide +kernel
theorem dX6_find_1 : decode cX6_find 1 = .ok (.getfield 12, 3) := by decide +kernel
theorem dX6_find_4 : decode cX6_find 4 = .ok (.getfield 63, 3) := by decide +kernel
theorem dX6_find_7 : decode cX6_find 7 = .ok (.aload_n 0, 1) := by decide +kernel
theorem dX6_find_8 : decode cX6_find 8 = .ok (.invokevirtual 38, 3) := by decide +kernel
theorem dX6_find_11 : decode cX6_find 11 = .ok (.invokevirtual 156, 3) := by decide +kernel
theorem dX6_find_14 : decode cX6_find 14 = .ok (.istore_n 1, 1) := by decide +kernel
theorem dX6_find_15 : decode cX6_find 15 = .ok (.iload_n 1, 1) := by decide +kernel
theorem dX6_find_16 : decode cX6_find 16 = .ok (.iconst (-1), 1) := by decide +kernel
theorem dX6_find_17 : decode cX6_find 17 = .ok (.if_icmp .ne 8, 3) := by decide +kernel
theorem dX6_find_20 : decode cX6_find 20 = .ok (.bipush (-2), 2) := by decide +kernel
theorem dX6_find_22 : decode cX6_find 22 = .ok (.goto 14, 3) := by decide +kernel
theorem dX6_find_25 : decode cX6_find 25 = .ok (.aload_n 0, 1) := by decide +kernel
theorem dX6_find_26 : decode cX6_find 26 = .ok (.getfield 12, 3) := by decide +kernel
theorem dX6_find_29 : decode cX6_find 29 = .ok (.getfield 63, 3) := by decide +kernel
theorem dX6_find_32 : decode cX6_find 32 = .ok (.iload_n 1, 1) := by decide +kernel
theorem dX6_find_33 : decode cX6_find 33 = .ok (.invokevirtual 103, 3) := by decide +kernel
theorem dX6_find_36 : decode cX6_find 36 = .ok (.ireturn, 1) := by decide +kernel
set_option maxRecDepth 20000 in
theorem ggX6_hashOfText_X6_nameInText : GoodIn wsX6_hashOfText wsX6_nameInText := goodIn_ca (goodIn_r _ [5, 6, 7, 8, 9, 10, 11, 12, 13, 14, 15, 16, 17, 18, 19, 20, 21, 22, 23, 24, 25, 32, 33, 34, 35, 36, 37, 38] (by decide +kernel) (by decide +kernel)) (goodIn_sub (fun _ h => List.mem_cons_of_mem _ (List.mem_append_right _ h)) (by decide +kernel))
set_option maxRecDepth 20000 in
theorem gX6_hashOfText_X6_nameInText : GoodIn wsX6_hashOfText (wsV RX6 38 RX6 yX6_nameInText wsX6_nameInText) := goodIn_app (goodIn_of _ (by decide +kernel)) ggX6_hashOfText_X6_nameInText
set_option maxRecDepth 20000 in
theorem ggX6_hashOfText_X2_hash : GoodIn wsX6_hashOfText wsX2_hash := goodIn_r _ [28, 29, 30, 18, 31, 23, 24, 25] (by decide +kernel) (by decide +kernel)
set_option maxRecDepth 20000 in
theorem gX6_hashOfText_X2_hash : GoodIn wsX6_hashOfText (va_wsS RX6 159 yX2_hash wsX2_hash) := goodIn_app (goodIn_of _ (by decide +kernel)) ggX6_hashOfText_X2_hash
theorem dX6_hashOfText_0 : decode cX6_hashOfText 0 = .ok (.aload_n 0, 1) := by decide +kernel
theorem dX6_hashOfText_1 : decode cX6_hashOfText 1 = .ok (.invokevirtual 38, 3) := by decide +kernel
theorem dX6_hashOfText_4 : decode cX6_hashOfText 4 = .ok (.invokestatic 159, 3) := by decide +kernel
theorem dX6_hashOfText_7 : decode cX6_hashOfText 7 = .ok (.ireturn, 1) := by decide +kernel
set_option maxRecDepth 20000 in
theorem ggX6_hashOf_X6_placeOfEntry : GoodIn wsX6_hashOf wsX6_placeOfEntry := goodIn_ca (goodIn_r _ [7, 8, 9, 1, 2, 10, 11, 12, 13, 14, 15, 16, 17, 18, 19, 20, 25, 26, 27, 28, 29, 30, 31, 32, 33, 34, 35, 36] (by decide +kernel) (by decide +kernel)) (goodIn_sub (fun _ h => List.mem_cons_of_mem _ (List.mem_append_right _ h)) (by decide +kernel))
set_option maxRecDepth 20000 in
theorem gX6_hashOf_X6_placeOfEntry : GoodIn wsX6_hashOf (wsV RX6 57 RX6 yX6_placeOfEntry wsX6_placeOfEntry) := goodIn_app (goodIn_of _ (by decide +kernel)) ggX6_hashOf_X6_placeOfEntry
set_option maxRecDepth 20000 in
theorem ggX6_hashOf_X0_hashIn : GoodIn wsX6_hashOf wsX0_hashIn := goodIn_r _ [24, 20, 34, 35, 36] (by decide +kernel) (by decide +kernel)
set_option maxRecDepth 20000 in
theorem gX6_hashOf_X0_hashIn : GoodIn wsX6_hashOf (wsV RX6 164 RX0 yX0_hashIn wsX0_hashIn) := goodIn_app (goodIn_of _ (by decide +kernel)) ggX6_hashOf_X0_hashIn
theorem dX6_hashOf_0 : decode cX6_hashOf 0 = .ok (.aload_n 0, 1) := by decide +kernel
theorem dX6_hashOf_1 : decode cX6_hashOf 1 = .ok (.getfield 12, 3) := by decide +kernel
theorem dX6_hashOf_4 : decode cX6_hashOf 4 = .ok (.getfield 63, 3) := by decide +kernel
theorem dX6_hashOf_7 : decode cX6_hashOf 7 = .ok (.aload_n 0, 1) := by decide +kernel
theorem dX6_hashOf_8 : decode cX6_hashOf 8 = .ok (.iload_n 1, 1) := by decide +kernel
theorem dX6_hashOf_9 : decode cX6_hashOf 9 = .ok (.invokevirtual 57, 3) := by decide +kernel
theorem dX6_hashOf_12 : decode cX6_hashOf 12 = .ok (.invokevirtual 164, 3) := by decide +kernel
theorem dX6_hashOf_15 : decode cX6_hashOf 15 = .ok (.ireturn, 1) := by decide +kernel
set_option maxRecDepth 20000 in
theorem ggX6_letterOf_X6_placeOfEntry : GoodIn wsX6_letterOf wsX6_placeOfEntry := goodIn_ca (goodIn_r _ [10, 1, 2, 3, 4, 11, 12, 13, 14, 15, 16, 17, 18, 19, 20, 21, 29, 30, 31, 32, 33, 34, 35, 36, 37, 38, 39, 40] (by decide +kernel) (by decide +kernel)) (goodIn_sub (fun _ h => List.mem_cons_of_mem _ (List.mem_append_right _ h)) (by decide +kernel))
set_option maxRecDepth 20000 in
theorem gX6_letterOf_X6_placeOfEntry : GoodIn wsX6_letterOf (wsV RX6 57 RX6 yX6_placeOfEntry wsX6_placeOfEntry) := goodIn_app (goodIn_of _ (by decide +kernel)) ggX6_letterOf_X6_placeOfEntry
set_option maxRecDepth 20000 in
theorem ggX6_letterOf_X2_letterNumber : GoodIn wsX6_letterOf wsX2_letterNumber := goodIn_r _ [25, 26, 27, 24, 28] (by decide +kernel) (by decide +kernel)
set_option maxRecDepth 20000 in
theorem gX6_letterOf_X2_letterNumber : GoodIn wsX6_letterOf (va_wsS RX6 170 yX2_letterNumber wsX2_letterNumber) := goodIn_app (goodIn_of _ (by decide +kernel)) ggX6_letterOf_X2_letterNumber
theorem dX6_letterOf_0 : decode cX6_letterOf 0 = .ok (.aload_n 0, 1) := by decide +kernel
theorem dX6_letterOf_1 : decode cX6_letterOf 1 = .ok (.iload_n 1, 1) := by decide +kernel
theorem dX6_letterOf_2 : decode cX6_letterOf 2 = .ok (.invokevirtual 57, 3) := by decide +kernel
theorem dX6_letterOf_5 : decode cX6_letterOf 5 = .ok (.istore_n 3, 1) := by decide +kernel
theorem dX6_letterOf_6 : decode cX6_letterOf 6 = .ok (.iload_n 2, 1) := by decide +kernel
theorem dX6_letterOf_7 : decode cX6_letterOf 7 = .ok (.ifCond .ge 13, 3) := by decide +kernel
theorem dX6_letterOf_10 : decode cX6_letterOf 10 = .ok (.new 151, 3) := by decide +kernel
theorem dX6_letterOf_13 : decode cX6_letterOf 13 = .ok (.dup, 1) := by decide +kernel
theorem dX6_letterOf_14 : decode cX6_letterOf 14 = .ok (.ldc 153, 2) := by decide +kernel
theorem dX6_letterOf_16 : decode cX6_letterOf 16 = .ok (.invokespecial 155, 3) := by decide +kernel
theorem dX6_letterOf_19 : decode cX6_letterOf 19 = .ok (.athrow, 1) := by decide +kernel
theorem dX6_letterOf_20 : decode cX6_letterOf 20 = .ok (.aload_n 0, 1) := by decide +kernel
theorem dX6_letterOf_21 : decode cX6_letterOf 21 = .ok (.getfield 12, 3) := by decide +kernel
theorem dX6_letterOf_24 : decode cX6_letterOf 24 = .ok (.getfield 63, 3) := by decide +kernel
theorem dX6_letterOf_27 : decode cX6_letterOf 27 = .ok (.getfield 167, 3) := by decide +kernel
theorem dX6_letterOf_30 : decode cX6_letterOf 30 = .ok (.iload_n 3, 1) := by decide +kernel
theorem dX6_letterOf_31 : decode cX6_letterOf 31 = .ok (.iaload, 1) := by decide +kernel
theorem dX6_letterOf_32 : decode cX6_letterOf 32 = .ok (.iload_n 2, 1) := by decide +kernel
theorem dX6_letterOf_33 : decode cX6_letterOf 33 = .ok (.invokestatic 170, 3) := by decide +kernel
theorem dX6_letterOf_36 : decode cX6_letterOf 36 = .ok (.istore 4, 2) := by decide +kernel
theorem dX6_letterOf_38 : decode cX6_letterOf 38 = .ok (.iload 4, 2) := by decide +kernel
theorem dX6_letterOf_40 : decode cX6_letterOf 40 = .ok (.ifCond .ne 8, 3) := by decide +kernel
theorem dX6_letterOf_43 : decode cX6_letterOf 43 = .ok (.bipush (-2), 2) := by decide +kernel
theorem dX6_letterOf_45 : decode cX6_letterOf 45 = .ok (.goto 10, 3) := by decide +kernel
theorem dX6_letterOf_48 : decode cX6_letterOf 48 = .ok (.bipush 97, 2) := by decide +kernel
theorem dX6_letterOf_50 : decode cX6_letterOf 50 = .ok (.iload 4, 2) := by decide +kernel
theorem dX6_letterOf_52 : decode cX6_letterOf 52 = .ok (.iadd, 1) := by decide +kernel
theorem dX6_letterOf_53 : decode cX6_letterOf 53 = .ok (.iconst 1, 1) := by decide +kernel
theorem dX6_letterOf_54 : decode cX6_letterOf 54 = .ok (.isub, 1) := by decide +kernel
theorem dX6_letterOf_55 : decode cX6_letterOf 55 = .ok (.ireturn, 1) := by decide +kernel
set_option maxRecDepth 20000 in
theorem ggX6_withHash_X6_requireHash : GoodIn wsX6_withHash wsX6_requireHash := goodIn_ca (goodIn_r _ [6, 7, 8] (by decide +kernel) (by decide +kernel)) (goodIn_sub (fun _ h => List.mem_cons_of_mem _ (List.mem_append_right _ h)) (by decide +kernel))
set_option maxRecDepth 20000 in
theorem gX6_withHash_X6_requireHash : GoodIn wsX6_withHash (va_wsS RX6 174 yX6_requireHash wsX6_requireHash) := goodIn_app (goodIn_of _ (by decide +kernel)) ggX6_withHash_X6_requireHash
set_option maxRecDepth 20000 in
theorem ggX6_withHash_X0_countInBranch : GoodIn wsX6_withHash wsX0_countInBranch := goodIn_r _ [13, 14, 15, 16, 17, 18, 19, 20, 21, 22, 23, 12, 24, 25, 26, 36, 37, 38] (by decide +kernel) (by decide +kernel)
set_option maxRecDepth 20000 in
theorem gX6_withHash_X0_countInBranch : GoodIn wsX6_withHash (wsV RX6 177 RX0 yX0_countInBranch wsX0_countInBranch) := goodIn_app (goodIn_of _ (by decide +kernel)) ggX6_withHash_X0_countInBranch
theorem dX6_withHash_0 : decode cX6_withHash 0 = .ok (.iload_n 1, 1) := by decide +kernel
theorem dX6_withHash_1 : decode cX6_withHash 1 = .ok (.invokestatic 174, 3) := by decide +kernel
theorem dX6_withHash_4 : decode cX6_withHash 4 = .ok (.aload_n 0, 1) := by decide +kernel
theorem dX6_withHash_5 : decode cX6_withHash 5 = .ok (.getfield 12, 3) := by decide +kernel
theorem dX6_withHash_8 : decode cX6_withHash 8 = .ok (.getfield 63, 3) := by decide +kernel
theorem dX6_withHash_11 : decode cX6_withHash 11 = .ok (.iload_n 1, 1) := by decide +kernel
theorem dX6_withHash_12 : decode cX6_withHash 12 = .ok (.bipush 6, 2) := by decide +kernel
theorem dX6_withHash_14 : decode cX6_withHash 14 = .ok (.invokevirtual 177, 3) := by decide +kernel
theorem dX6_withHash_17 : decode cX6_withHash 17 = .ok (.ireturn, 1) := by decide +kernel
set_option maxRecDepth 20000 in
theorem ggX6_leaves_X5_leafCount : GoodIn wsX6_leaves wsX5_leafCount := goodIn_r _ [7, 8, 9, 10, 6, 11, 21, 22, 23] (by decide +kernel) (by decide +kernel)
set_option maxRecDepth 20000 in
theorem gX6_leaves_X5_leafCount : GoodIn wsX6_leaves (wsV RX6 184 RX5 yX5_leafCount wsX5_leafCount) := goodIn_app (goodIn_of _ (by decide +kernel)) ggX6_leaves_X5_leafCount
theorem dX6_leaves_0 : decode cX6_leaves 0 = .ok (.aload_n 0, 1) := by decide +kernel
theorem dX6_leaves_1 : decode cX6_leaves 1 = .ok (.getfield 12, 3) := by decide +kernel
theorem dX6_leaves_4 : decode cX6_leaves 4 = .ok (.getfield 180, 3) := by decide +kernel
theorem dX6_leaves_7 : decode cX6_leaves 7 = .ok (.invokevirtual 184, 3) := by decide +kernel
theorem dX6_leaves_10 : decode cX6_leaves 10 = .ok (.ireturn, 1) := by decide +kernel
set_option maxRecDepth 20000 in
theorem ggX6_depthOf_X6_requireHash : GoodIn wsX6_depthOf wsX6_requireHash := goodIn_ca (goodIn_r _ [7, 8, 9] (by decide +kernel) (by decide +kernel)) (goodIn_sub (fun _ h => List.mem_cons_of_mem _ (List.mem_append_right _ h)) (by decide +kernel))
set_option maxRecDepth 20000 in
theorem gX6_depthOf_X6_requireHash : GoodIn wsX6_depthOf (va_wsS RX6 174 yX6_requireHash wsX6_requireHash) := goodIn_app (goodIn_of _ (by decide +kernel)) ggX6_depthOf_X6_requireHash
theorem dX6_depthOf_0 : decode cX6_depthOf 0 = .ok (.iload_n 1, 1) := by decide +kernel
theorem dX6_depthOf_1 : decode cX6_depthOf 1 = .ok (.invokestatic 174, 3) := by decide +kernel
theorem dX6_depthOf_4 : decode cX6_depthOf 4 = .ok (.aload_n 0, 1) := by decide +kernel
theorem dX6_depthOf_5 : decode cX6_depthOf 5 = .ok (.getfield 12, 3) := by decide +kernel
theorem dX6_depthOf_8 : decode cX6_depthOf 8 = .ok (.getfield 180, 3) := by decide +kernel
theorem dX6_depthOf_11 : decode cX6_depthOf 11 = .ok (.getfield 189, 3) := by decide +kernel
theorem dX6_depthOf_14 : decode cX6_depthOf 14 = .ok (.iload_n 1, 1) := by decide +kernel
theorem dX6_depthOf_15 : decode cX6_depthOf 15 = .ok (.iaload, 1) := by decide +kernel
theorem dX6_depthOf_16 : decode cX6_depthOf 16 = .ok (.ireturn, 1) := by decide +kernel
set_option maxRecDepth 20000 in
theorem ggX6_leafSize_X6_requireHash : GoodIn wsX6_leafSize wsX6_requireHash := goodIn_ca (goodIn_r _ [8, 9, 10] (by decide +kernel) (by decide +kernel)) (goodIn_sub (fun _ h => List.mem_cons_of_mem _ (List.mem_append_right _ h)) (by decide +kernel))
set_option maxRecDepth 20000 in
theorem gX6_leafSize_X6_requireHash : GoodIn wsX6_leafSize (va_wsS RX6 174 yX6_requireHash wsX6_requireHash) := goodIn_app (goodIn_of _ (by decide +kernel)) ggX6_leafSize_X6_requireHash
set_option maxRecDepth 20000 in
theorem ggX6_leafSize_X0_countInBranch : GoodIn wsX6_leafSize wsX0_countInBranch := goodIn_r _ [15, 16, 17, 18, 19, 20, 21, 22, 23, 24, 25, 14, 26, 27, 28, 41, 42, 43] (by decide +kernel) (by decide +kernel)
set_option maxRecDepth 20000 in
theorem gX6_leafSize_X0_countInBranch : GoodIn wsX6_leafSize (wsV RX6 177 RX0 yX0_countInBranch wsX0_countInBranch) := goodIn_app (goodIn_of _ (by decide +kernel)) ggX6_leafSize_X0_countInBranch
theorem dX6_leafSize_0 : decode cX6_leafSize 0 = .ok (.iload_n 1, 1) := by decide +kernel
theorem dX6_leafSize_1 : decode cX6_leafSize 1 = .ok (.invokestatic 174, 3) := by decide +kernel
theorem dX6_leafSize_4 : decode cX6_leafSize 4 = .ok (.aload_n 0, 1) := by decide +kernel
theorem dX6_leafSize_5 : decode cX6_leafSize 5 = .ok (.getfield 12, 3) := by decide +kernel
theorem dX6_leafSize_8 : decode cX6_leafSize 8 = .ok (.getfield 63, 3) := by decide +kernel
theorem dX6_leafSize_11 : decode cX6_leafSize 11 = .ok (.iload_n 1, 1) := by decide +kernel
theorem dX6_leafSize_12 : decode cX6_leafSize 12 = .ok (.aload_n 0, 1) := by decide +kernel
theorem dX6_leafSize_13 : decode cX6_leafSize 13 = .ok (.getfield 12, 3) := by decide +kernel
theorem dX6_leafSize_16 : decode cX6_leafSize 16 = .ok (.getfield 180, 3) := by decide +kernel
theorem dX6_leafSize_19 : decode cX6_leafSize 19 = .ok (.getfield 189, 3) := by decide +kernel
theorem dX6_leafSize_22 : decode cX6_leafSize 22 = .ok (.iload_n 1, 1) := by decide +kernel
theorem dX6_leafSize_23 : decode cX6_leafSize 23 = .ok (.iaload, 1) := by decide +kernel
theorem dX6_leafSize_24 : decode cX6_leafSize 24 = .ok (.invokevirtual 177, 3) := by decide +kernel
theorem dX6_leafSize_27 : decode cX6_leafSize 27 = .ok (.ireturn, 1) := by decide +kernel
theorem dX6_splits_0 : decode cX6_splits 0 = .ok (.aload_n 0, 1) := by decide +kernel
theorem dX6_splits_1 : decode cX6_splits 1 = .ok (.getfield 12, 3) := by decide +kernel
theorem dX6_splits_4 : decode cX6_splits 4 = .ok (.getfield 180, 3) := by decide +kernel
theorem dX6_splits_7 : decode cX6_splits 7 = .ok (.getfield 192, 3) := by decide +kernel
theorem dX6_splits_10 : decode cX6_splits 10 = .ok (.ireturn, 1) := by decide +kernel
theorem dX6_merges_0 : decode cX6_merges 0 = .ok (.aload_n 0, 1) := by decide +kernel
theorem dX6_merges_1 : decode cX6_merges 1 = .ok (.getfield 12, 3) := by decide +kernel
theorem dX6_merges_4 : decode cX6_merges 4 = .ok (.getfield 180, 3) := by decide +kernel
theorem dX6_merges_7 : decode cX6_merges 7 = .ok (.getfield 195, 3) := by decide +kernel
theorem dX6_merges_10 : decode cX6_merges 10 = .ok (.ireturn, 1) := by decide +kernel
set_option maxRecDepth 20000 in
theorem ggX6_meanLeafSize_X5_leafCount : GoodIn wsX6_meanLeafSize wsX5_leafCount := goodIn_r _ [9, 10, 11, 12, 8, 13, 26, 27, 28] (by decide +kernel) (by decide +kernel)
set_option maxRecDepth 20000 in
theorem gX6_meanLeafSize_X5_leafCount : GoodIn wsX6_meanLeafSize (wsV RX6 184 RX5 yX5_leafCount wsX5_leafCount) := goodIn_app (goodIn_of _ (by decide +kernel)) ggX6_meanLeafSize_X5_leafCount
theorem dX6_meanLeafSize_0 : decode cX6_meanLeafSize 0 = .ok (.aload_n 0, 1) := by decide +kernel
theorem dX6_meanLeafSize_1 : decode cX6_meanLeafSize 1 = .ok (.getfield 12, 3) := by decide +kernel
theorem dX6_meanLeafSize_4 : decode cX6_meanLeafSize 4 = .ok (.getfield 180, 3) := by decide +kernel
theorem dX6_meanLeafSize_7 : decode cX6_meanLeafSize 7 = .ok (.invokevirtual 184, 3) := by decide +kernel
theorem dX6_meanLeafSize_10 : decode cX6_meanLeafSize 10 = .ok (.istore_n 1, 1) := by decide +kernel
theorem dX6_meanLeafSize_11 : decode cX6_meanLeafSize 11 = .ok (.iload_n 1, 1) := by decide +kernel
theorem dX6_meanLeafSize_12 : decode cX6_meanLeafSize 12 = .ok (.ifCond .le 20, 3) := by decide +kernel
theorem dX6_meanLeafSize_15 : decode cX6_meanLeafSize 15 = .ok (.aload_n 0, 1) := by decide +kernel
theorem dX6_meanLeafSize_16 : decode cX6_meanLeafSize 16 = .ok (.getfield 12, 3) := by decide +kernel
theorem dX6_meanLeafSize_19 : decode cX6_meanLeafSize 19 = .ok (.getfield 63, 3) := by decide +kernel
theorem dX6_meanLeafSize_22 : decode cX6_meanLeafSize 22 = .ok (.getfield 67, 3) := by decide +kernel
theorem dX6_meanLeafSize_25 : decode cX6_meanLeafSize 25 = .ok (.i2f, 1) := by decide +kernel
theorem dX6_meanLeafSize_26 : decode cX6_meanLeafSize 26 = .ok (.iload_n 1, 1) := by decide +kernel
theorem dX6_meanLeafSize_27 : decode cX6_meanLeafSize 27 = .ok (.i2f, 1) := by decide +kernel
theorem dX6_meanLeafSize_28 : decode cX6_meanLeafSize 28 = .ok (.fdiv, 1) := by decide +kernel
theorem dX6_meanLeafSize_29 : decode cX6_meanLeafSize 29 = .ok (.goto 4, 3) := by decide +kernel
theorem dX6_meanLeafSize_32 : decode cX6_meanLeafSize 32 = .ok (.fconst 0, 1) := by decide +kernel
theorem dX6_meanLeafSize_33 : decode cX6_meanLeafSize 33 = .ok (.freturn, 1) := by decide +kernel
set_option maxRecDepth 20000 in
theorem ggX6_leavesIfAdded_X6_nameInText : GoodIn wsX6_leavesIfAdded wsX6_nameInText := goodIn_ca (goodIn_r _ [8, 9, 10, 11, 12, 13, 14, 15, 16, 17, 18, 19, 20, 21, 22, 23, 24, 25, 26, 27, 28, 89, 90, 91, 92, 93, 98, 99] (by decide +kernel) (by decide +kernel)) (goodIn_sub (fun _ h => List.mem_cons_of_mem _ (List.mem_append_left _ (List.mem_append_right _ h))) (by decide +kernel))
set_option maxRecDepth 20000 in
theorem gX6_leavesIfAdded_X6_nameInText : GoodIn wsX6_leavesIfAdded (wsV RX6 38 RX6 yX6_nameInText wsX6_nameInText) := goodIn_app (goodIn_of _ (by decide +kernel)) ggX6_leavesIfAdded_X6_nameInText
set_option maxRecDepth 20000 in
theorem ggX6_leavesIfAdded_X6_requireAddable : GoodIn wsX6_leavesIfAdded wsX6_requireAddable := goodIn_ca (goodIn_r _ [32, 33, 34, 1, 35, 36, 37, 38, 39, 40, 41, 42, 43, 44, 45, 46, 47, 48, 49, 50, 51, 52, 53, 54, 55, 56, 89, 90, 91, 92, 93, 94, 95, 96, 97, 100, 101, 102] (by decide +kernel) (by decide +kernel)) (goodIn_sub (fun _ h => List.mem_cons_of_mem _ (List.mem_append_right _ h)) (by decide +kernel))
set_option maxRecDepth 20000 in
theorem gX6_leavesIfAdded_X6_requireAddable : GoodIn wsX6_leavesIfAdded (wsV RX6 42 RX6 yX6_requireAddable wsX6_requireAddable) := goodIn_app (goodIn_of _ (by decide +kernel)) ggX6_leavesIfAdded_X6_requireAddable
set_option maxRecDepth 20000 in
theorem ggX6_leavesIfAdded_X2_hash : GoodIn wsX6_leavesIfAdded wsX2_hash := goodIn_r _ [59, 60, 61, 21, 62, 26, 27, 28] (by decide +kernel) (by decide +kernel)
set_option maxRecDepth 20000 in
theorem gX6_leavesIfAdded_X2_hash : GoodIn wsX6_leavesIfAdded (va_wsS RX6 159 yX2_hash wsX2_hash) := goodIn_app (goodIn_of _ (by decide +kernel)) ggX6_leavesIfAdded_X2_hash
set_option maxRecDepth 20000 in
theorem ggX6_leavesIfAdded_X5_leafCountIfAdded : GoodIn wsX6_leavesIfAdded wsX5_leafCountIfAdded := goodIn_r _ [67, 68, 69, 70, 71, 44, 72, 73, 74, 66, 75, 76, 77, 78, 79, 80, 81, 82, 46, 83, 84, 85, 86, 87, 88, 103, 104, 105, 100, 101, 102] (by decide +kernel) (by decide +kernel)
set_option maxRecDepth 20000 in
theorem gX6_leavesIfAdded_X5_leafCountIfAdded : GoodIn wsX6_leavesIfAdded (wsV RX6 198 RX5 yX5_leafCountIfAdded wsX5_leafCountIfAdded) := goodIn_app (goodIn_of _ (by decide +kernel)) ggX6_leavesIfAdded_X5_leafCountIfAdded
theorem dX6_leavesIfAdded_0 : decode cX6_leavesIfAdded 0 = .ok (.aload_n 0, 1) := by decide +kernel
theorem dX6_leavesIfAdded_1 : decode cX6_leavesIfAdded 1 = .ok (.invokevirtual 38, 3) := by decide +kernel
theorem dX6_leavesIfAdded_4 : decode cX6_leavesIfAdded 4 = .ok (.istore_n 1, 1) := by decide +kernel
theorem dX6_leavesIfAdded_5 : decode cX6_leavesIfAdded 5 = .ok (.aload_n 0, 1) := by decide +kernel
theorem dX6_leavesIfAdded_6 : decode cX6_leavesIfAdded 6 = .ok (.iload_n 1, 1) := by decide +kernel
theorem dX6_leavesIfAdded_7 : decode cX6_leavesIfAdded 7 = .ok (.invokevirtual 42, 3) := by decide +kernel
theorem dX6_leavesIfAdded_10 : decode cX6_leavesIfAdded 10 = .ok (.aload_n 0, 1) := by decide +kernel
theorem dX6_leavesIfAdded_11 : decode cX6_leavesIfAdded 11 = .ok (.getfield 12, 3) := by decide +kernel
theorem dX6_leavesIfAdded_14 : decode cX6_leavesIfAdded 14 = .ok (.getfield 180, 3) := by decide +kernel
theorem dX6_leavesIfAdded_17 : decode cX6_leavesIfAdded 17 = .ok (.iload_n 1, 1) := by decide +kernel
theorem dX6_leavesIfAdded_18 : decode cX6_leavesIfAdded 18 = .ok (.invokestatic 159, 3) := by decide +kernel
theorem dX6_leavesIfAdded_21 : decode cX6_leavesIfAdded 21 = .ok (.aload_n 0, 1) := by decide +kernel
theorem dX6_leavesIfAdded_22 : decode cX6_leavesIfAdded 22 = .ok (.getfield 12, 3) := by decide +kernel
theorem dX6_leavesIfAdded_25 : decode cX6_leavesIfAdded 25 = .ok (.getfield 63, 3) := by decide +kernel
theorem dX6_leavesIfAdded_28 : decode cX6_leavesIfAdded 28 = .ok (.invokevirtual 198, 3) := by decide +kernel
theorem dX6_leavesIfAdded_31 : decode cX6_leavesIfAdded 31 = .ok (.ireturn, 1) := by decide +kernel
set_option maxRecDepth 20000 in
theorem ggX6_position_X6_requireReader : GoodIn wsX6_position wsX6_requireReader := goodIn_ca (goodIn_r _ [6, 7, 8] (by decide +kernel) (by decide +kernel)) (goodIn_sub (fun _ h => List.mem_cons_of_mem _ (List.mem_append_right _ h)) (by decide +kernel))
set_option maxRecDepth 20000 in
theorem gX6_position_X6_requireReader : GoodIn wsX6_position (va_wsS RX6 84 yX6_requireReader wsX6_requireReader) := goodIn_app (goodIn_of _ (by decide +kernel)) ggX6_position_X6_requireReader
theorem dX6_position_0 : decode cX6_position 0 = .ok (.iload_n 1, 1) := by decide +kernel
theorem dX6_position_1 : decode cX6_position 1 = .ok (.invokestatic 84, 3) := by decide +kernel
theorem dX6_position_4 : decode cX6_position 4 = .ok (.aload_n 0, 1) := by decide +kernel
theorem dX6_position_5 : decode cX6_position 5 = .ok (.getfield 12, 3) := by decide +kernel
theorem dX6_position_8 : decode cX6_position 8 = .ok (.getfield 87, 3) := by decide +kernel
theorem dX6_position_11 : decode cX6_position 11 = .ok (.iload_n 1, 1) := by decide +kernel
theorem dX6_position_12 : decode cX6_position 12 = .ok (.iaload, 1) := by decide +kernel
theorem dX6_position_13 : decode cX6_position 13 = .ok (.ireturn, 1) := by decide +kernel
set_option maxRecDepth 20000 in
theorem ggX6_peek_X6_requireReader : GoodIn wsX6_peek wsX6_requireReader := goodIn_ca (goodIn_r _ [7, 8, 9] (by decide +kernel) (by decide +kernel)) (goodIn_sub (fun _ h => List.mem_cons_of_mem _ (List.mem_append_right _ h)) (by decide +kernel))
set_option maxRecDepth 20000 in
theorem gX6_peek_X6_requireReader : GoodIn wsX6_peek (va_wsS RX6 84 yX6_requireReader wsX6_requireReader) := goodIn_app (goodIn_of _ (by decide +kernel)) ggX6_peek_X6_requireReader
set_option maxRecDepth 20000 in
theorem ggX6_peek_X3_isOpen : GoodIn wsX6_peek wsX3_isOpen := goodIn_r _ [14, 15, 37, 38, 39, 40] (by decide +kernel) (by decide +kernel)
set_option maxRecDepth 20000 in
theorem gX6_peek_X3_isOpen : GoodIn wsX6_peek (wsV RX6 202 RX3 yX3_isOpen wsX3_isOpen) := goodIn_app (goodIn_of _ (by decide +kernel)) ggX6_peek_X3_isOpen
set_option maxRecDepth 20000 in
theorem ggX6_peek_X3_nextPlace : GoodIn wsX6_peek wsX3_nextPlace := goodIn_r _ [19, 20, 15, 21, 22, 23, 24, 25, 26, 27, 37, 38, 39, 40, 41, 42, 43] (by decide +kernel) (by decide +kernel)
set_option maxRecDepth 20000 in
theorem gX6_peek_X3_nextPlace : GoodIn wsX6_peek (wsV RX6 97 RX3 yX3_nextPlace wsX3_nextPlace) := goodIn_app (goodIn_of _ (by decide +kernel)) ggX6_peek_X3_nextPlace
set_option maxRecDepth 20000 in
theorem ggX6_peek_X0_idIn : GoodIn wsX6_peek wsX0_idIn := goodIn_r _ [31, 27, 41, 42, 43] (by decide +kernel) (by decide +kernel)
set_option maxRecDepth 20000 in
theorem gX6_peek_X0_idIn : GoodIn wsX6_peek (wsV RX6 103 RX0 yX0_idIn wsX0_idIn) := goodIn_app (goodIn_of _ (by decide +kernel)) ggX6_peek_X0_idIn
theorem dX6_peek_0 : decode cX6_peek 0 = .ok (.iload_n 1, 1) := by decide +kernel
theorem dX6_peek_1 : decode cX6_peek 1 = .ok (.invokestatic 84, 3) := by decide +kernel
theorem dX6_peek_4 : decode cX6_peek 4 = .ok (.aload_n 0, 1) := by decide +kernel
theorem dX6_peek_5 : decode cX6_peek 5 = .ok (.getfield 12, 3) := by decide +kernel
theorem dX6_peek_8 : decode cX6_peek 8 = .ok (.iload_n 1, 1) := by decide +kernel
theorem dX6_peek_9 : decode cX6_peek 9 = .ok (.invokevirtual 202, 3) := by decide +kernel
theorem dX6_peek_12 : decode cX6_peek 12 = .ok (.ifCond .ne 6, 3) := by decide +kernel
theorem dX6_peek_15 : decode cX6_peek 15 = .ok (.bipush (-2), 2) := by decide +kernel
theorem dX6_peek_17 : decode cX6_peek 17 = .ok (.ireturn, 1) := by decide +kernel
theorem dX6_peek_18 : decode cX6_peek 18 = .ok (.aload_n 0, 1) := by decide +kernel
theorem dX6_peek_19 : decode cX6_peek 19 = .ok (.getfield 12, 3) := by decide +kernel
theorem dX6_peek_22 : decode cX6_peek 22 = .ok (.iload_n 1, 1) := by decide +kernel
theorem dX6_peek_23 : decode cX6_peek 23 = .ok (.invokevirtual 97, 3) := by decide +kernel
theorem dX6_peek_26 : decode cX6_peek 26 = .ok (.istore_n 2, 1) := by decide +kernel
theorem dX6_peek_27 : decode cX6_peek 27 = .ok (.iload_n 2, 1) := by decide +kernel
theorem dX6_peek_28 : decode cX6_peek 28 = .ok (.aload_n 0, 1) := by decide +kernel
theorem dX6_peek_29 : decode cX6_peek 29 = .ok (.getfield 12, 3) := by decide +kernel
theorem dX6_peek_32 : decode cX6_peek 32 = .ok (.getfield 63, 3) := by decide +kernel
theorem dX6_peek_35 : decode cX6_peek 35 = .ok (.getfield 67, 3) := by decide +kernel
theorem dX6_peek_38 : decode cX6_peek 38 = .ok (.if_icmp .ge 17, 3) := by decide +kernel
theorem dX6_peek_41 : decode cX6_peek 41 = .ok (.aload_n 0, 1) := by decide +kernel
theorem dX6_peek_42 : decode cX6_peek 42 = .ok (.getfield 12, 3) := by decide +kernel
theorem dX6_peek_45 : decode cX6_peek 45 = .ok (.getfield 63, 3) := by decide +kernel
theorem dX6_peek_48 : decode cX6_peek 48 = .ok (.iload_n 2, 1) := by decide +kernel
theorem dX6_peek_49 : decode cX6_peek 49 = .ok (.invokevirtual 103, 3) := by decide +kernel
theorem dX6_peek_52 : decode cX6_peek 52 = .ok (.goto 5, 3) := by decide +kernel
theorem dX6_peek_55 : decode cX6_peek 55 = .ok (.bipush (-2), 2) := by decide +kernel
theorem dX6_peek_57 : decode cX6_peek 57 = .ok (.ireturn, 1) := by decide +kernel
set_option maxRecDepth 20000 in
theorem ggX6_remaining_X6_requireReader : GoodIn wsX6_remaining wsX6_requireReader := goodIn_ca (goodIn_r _ [7, 8, 9] (by decide +kernel) (by decide +kernel)) (goodIn_sub (fun _ h => List.mem_cons_of_mem _ (List.mem_append_right _ h)) (by decide +kernel))
set_option maxRecDepth 20000 in
theorem gX6_remaining_X6_requireReader : GoodIn wsX6_remaining (va_wsS RX6 84 yX6_requireReader wsX6_requireReader) := goodIn_app (goodIn_of _ (by decide +kernel)) ggX6_remaining_X6_requireReader
set_option maxRecDepth 20000 in
theorem ggX6_remaining_X3_isOpen : GoodIn wsX6_remaining wsX3_isOpen := goodIn_r _ [14, 15, 33, 34, 35, 36] (by decide +kernel) (by decide +kernel)
set_option maxRecDepth 20000 in
theorem gX6_remaining_X3_isOpen : GoodIn wsX6_remaining (wsV RX6 202 RX3 yX3_isOpen wsX3_isOpen) := goodIn_app (goodIn_of _ (by decide +kernel)) ggX6_remaining_X3_isOpen
set_option maxRecDepth 20000 in
theorem ggX6_remaining_X3_nextPlace : GoodIn wsX6_remaining wsX3_nextPlace := goodIn_r _ [19, 20, 15, 21, 22, 23, 24, 25, 26, 27, 33, 34, 35, 36, 37, 38, 39] (by decide +kernel) (by decide +kernel)
set_option maxRecDepth 20000 in
theorem gX6_remaining_X3_nextPlace : GoodIn wsX6_remaining (wsV RX6 97 RX3 yX3_nextPlace wsX3_nextPlace) := goodIn_app (goodIn_of _ (by decide +kernel)) ggX6_remaining_X3_nextPlace
theorem dX6_remaining_0 : decode cX6_remaining 0 = .ok (.iload_n 1, 1) := by decide +kernel
theorem dX6_remaining_1 : decode cX6_remaining 1 = .ok (.invokestatic 84, 3) := by decide +kernel
theorem dX6_remaining_4 : decode cX6_remaining 4 = .ok (.aload_n 0, 1) := by decide +kernel
theorem dX6_remaining_5 : decode cX6_remaining 5 = .ok (.getfield 12, 3) := by decide +kernel
theorem dX6_remaining_8 : decode cX6_remaining 8 = .ok (.iload_n 1, 1) := by decide +kernel
theorem dX6_remaining_9 : decode cX6_remaining 9 = .ok (.invokevirtual 202, 3) := by decide +kernel
theorem dX6_remaining_12 : decode cX6_remaining 12 = .ok (.ifCond .ne 6, 3) := by decide +kernel
theorem dX6_remaining_15 : decode cX6_remaining 15 = .ok (.bipush (-2), 2) := by decide +kernel
theorem dX6_remaining_17 : decode cX6_remaining 17 = .ok (.ireturn, 1) := by decide +kernel
theorem dX6_remaining_18 : decode cX6_remaining 18 = .ok (.aload_n 0, 1) := by decide +kernel
theorem dX6_remaining_19 : decode cX6_remaining 19 = .ok (.getfield 12, 3) := by decide +kernel
theorem dX6_remaining_22 : decode cX6_remaining 22 = .ok (.getfield 63, 3) := by decide +kernel
theorem dX6_remaining_25 : decode cX6_remaining 25 = .ok (.getfield 67, 3) := by decide +kernel
theorem dX6_remaining_28 : decode cX6_remaining 28 = .ok (.aload_n 0, 1) := by decide +kernel
theorem dX6_remaining_29 : decode cX6_remaining 29 = .ok (.getfield 12, 3) := by decide +kernel
theorem dX6_remaining_32 : decode cX6_remaining 32 = .ok (.iload_n 1, 1) := by decide +kernel
theorem dX6_remaining_33 : decode cX6_remaining 33 = .ok (.invokevirtual 97, 3) := by decide +kernel
theorem dX6_remaining_36 : decode cX6_remaining 36 = .ok (.isub, 1) := by decide +kernel
theorem dX6_remaining_37 : decode cX6_remaining 37 = .ok (.ireturn, 1) := by decide +kernel
theorem dX6_savedStates_0 : decode cX6_savedStates 0 = .ok (.aload_n 0, 1) := by decide +kernel
theorem dX6_savedStates_1 : decode cX6_savedStates 1 = .ok (.getfield 19, 3) := by decide +kernel
theorem dX6_savedStates_4 : decode cX6_savedStates 4 = .ok (.getfield 137, 3) := by decide +kernel
theorem dX6_savedStates_7 : decode cX6_savedStates 7 = .ok (.ireturn, 1) := by decide +kernel
set_option maxRecDepth 20000 in
theorem ggX6_nameInText_X4_nameBetween : GoodIn wsX6_nameInText wsX4_nameBetween := goodIn_r _ [9, 10, 11, 12, 13, 14, 15, 16, 17, 18, 19, 20, 26, 27] (by decide +kernel) (by decide +kernel)
set_option maxRecDepth 20000 in
theorem gX6_nameInText_X4_nameBetween : GoodIn wsX6_nameInText (wsV RX6 205 RX4 yX4_nameBetween wsX4_nameBetween) := goodIn_app (goodIn_of _ (by decide +kernel)) ggX6_nameInText_X4_nameBetween
theorem dX6_nameInText_0 : decode cX6_nameInText 0 = .ok (.aload_n 0, 1) := by decide +kernel
theorem dX6_nameInText_1 : decode cX6_nameInText 1 = .ok (.getfield 34, 3) := by decide +kernel
theorem dX6_nameInText_4 : decode cX6_nameInText 4 = .ok (.iconst 0, 1) := by decide +kernel
theorem dX6_nameInText_5 : decode cX6_nameInText 5 = .ok (.aload_n 0, 1) := by decide +kernel
theorem dX6_nameInText_6 : decode cX6_nameInText 6 = .ok (.getfield 34, 3) := by decide +kernel
theorem dX6_nameInText_9 : decode cX6_nameInText 9 = .ok (.getfield 117, 3) := by decide +kernel
theorem dX6_nameInText_12 : decode cX6_nameInText 12 = .ok (.invokevirtual 205, 3) := by decide +kernel
theorem dX6_nameInText_15 : decode cX6_nameInText 15 = .ok (.istore_n 1, 1) := by decide +kernel
theorem dX6_nameInText_16 : decode cX6_nameInText 16 = .ok (.iload_n 1, 1) := by decide +kernel
theorem dX6_nameInText_17 : decode cX6_nameInText 17 = .ok (.ifCond .ne 13, 3) := by decide +kernel
theorem dX6_nameInText_20 : decode cX6_nameInText 20 = .ok (.new 110, 3) := by decide +kernel
theorem dX6_nameInText_23 : decode cX6_nameInText 23 = .ok (.dup, 1) := by decide +kernel
theorem dX6_nameInText_24 : decode cX6_nameInText 24 = .ok (.ldc 208, 2) := by decide +kernel
theorem dX6_nameInText_26 : decode cX6_nameInText 26 = .ok (.invokespecial 114, 3) := by decide +kernel
theorem dX6_nameInText_29 : decode cX6_nameInText 29 = .ok (.athrow, 1) := by decide +kernel
theorem dX6_nameInText_30 : decode cX6_nameInText 30 = .ok (.iload_n 1, 1) := by decide +kernel
theorem dX6_nameInText_31 : decode cX6_nameInText 31 = .ok (.ireturn, 1) := by decide +kernel
set_option maxRecDepth 20000 in
theorem ggX6_placeOfEntry_X0_placeOfId : GoodIn wsX6_placeOfEntry wsX0_placeOfId := goodIn_r _ [9, 10, 11, 12, 13, 8, 14, 15, 25, 26, 27] (by decide +kernel) (by decide +kernel)
set_option maxRecDepth 20000 in
theorem gX6_placeOfEntry_X0_placeOfId : GoodIn wsX6_placeOfEntry (wsV RX6 210 RX0 yX0_placeOfId wsX0_placeOfId) := goodIn_app (goodIn_of _ (by decide +kernel)) ggX6_placeOfEntry_X0_placeOfId
theorem dX6_placeOfEntry_0 : decode cX6_placeOfEntry 0 = .ok (.aload_n 0, 1) := by decide +kernel
theorem dX6_placeOfEntry_1 : decode cX6_placeOfEntry 1 = .ok (.getfield 12, 3) := by decide +kernel
theorem dX6_placeOfEntry_4 : decode cX6_placeOfEntry 4 = .ok (.getfield 63, 3) := by decide +kernel
theorem dX6_placeOfEntry_7 : decode cX6_placeOfEntry 7 = .ok (.iload_n 1, 1) := by decide +kernel
theorem dX6_placeOfEntry_8 : decode cX6_placeOfEntry 8 = .ok (.invokevirtual 210, 3) := by decide +kernel
theorem dX6_placeOfEntry_11 : decode cX6_placeOfEntry 11 = .ok (.istore_n 2, 1) := by decide +kernel
theorem dX6_placeOfEntry_12 : decode cX6_placeOfEntry 12 = .ok (.iload_n 2, 1) := by decide +kernel
theorem dX6_placeOfEntry_13 : decode cX6_placeOfEntry 13 = .ok (.iconst (-1), 1) := by decide +kernel
theorem dX6_placeOfEntry_14 : decode cX6_placeOfEntry 14 = .ok (.if_icmp .ne 13, 3) := by decide +kernel
theorem dX6_placeOfEntry_17 : decode cX6_placeOfEntry 17 = .ok (.new 151, 3) := by decide +kernel
theorem dX6_placeOfEntry_20 : decode cX6_placeOfEntry 20 = .ok (.dup, 1) := by decide +kernel
theorem dX6_placeOfEntry_21 : decode cX6_placeOfEntry 21 = .ok (.ldc 213, 2) := by decide +kernel
theorem dX6_placeOfEntry_23 : decode cX6_placeOfEntry 23 = .ok (.invokespecial 155, 3) := by decide +kernel
theorem dX6_placeOfEntry_26 : decode cX6_placeOfEntry 26 = .ok (.athrow, 1) := by decide +kernel
theorem dX6_placeOfEntry_27 : decode cX6_placeOfEntry 27 = .ok (.iload_n 2, 1) := by decide +kernel
theorem dX6_placeOfEntry_28 : decode cX6_placeOfEntry 28 = .ok (.ireturn, 1) := by decide +kernel
set_option maxRecDepth 20000 in
theorem ggX6_requireAddable_X3_canAdd : GoodIn wsX6_requireAddable wsX3_canAdd := goodIn_r _ [8, 9, 10, 11, 12, 13, 14, 15, 16, 17, 18, 7, 19, 20, 21, 22, 23, 24, 25, 31, 32, 33, 34, 35, 36, 37] (by decide +kernel) (by decide +kernel)
set_option maxRecDepth 20000 in
theorem gX6_requireAddable_X3_canAdd : GoodIn wsX6_requireAddable (wsV RX6 215 RX3 yX3_canAdd wsX3_canAdd) := goodIn_app (goodIn_of _ (by decide +kernel)) ggX6_requireAddable_X3_canAdd
theorem dX6_requireAddable_0 : decode cX6_requireAddable 0 = .ok (.aload_n 0, 1) := by decide +kernel
theorem dX6_requireAddable_1 : decode cX6_requireAddable 1 = .ok (.getfield 12, 3) := by decide +kernel
theorem dX6_requireAddable_4 : decode cX6_requireAddable 4 = .ok (.iload_n 1, 1) := by decide +kernel
theorem dX6_requireAddable_5 : decode cX6_requireAddable 5 = .ok (.invokevirtual 215, 3) := by decide +kernel
theorem dX6_requireAddable_8 : decode cX6_requireAddable 8 = .ok (.ifCond .ne 13, 3) := by decide +kernel
theorem dX6_requireAddable_11 : decode cX6_requireAddable 11 = .ok (.new 77, 3) := by decide +kernel
theorem dX6_requireAddable_14 : decode cX6_requireAddable 14 = .ok (.dup, 1) := by decide +kernel
theorem dX6_requireAddable_15 : decode cX6_requireAddable 15 = .ok (.ldc 218, 2) := by decide +kernel
theorem dX6_requireAddable_17 : decode cX6_requireAddable 17 = .ok (.invokespecial 81, 3) := by decide +kernel
theorem dX6_requireAddable_20 : decode cX6_requireAddable 20 = .ok (.athrow, 1) := by decide +kernel
theorem dX6_requireAddable_21 : decode cX6_requireAddable 21 = .ok (.return_, 1) := by decide +kernel
set_option maxRecDepth 20000 in
theorem ggX6_requireOpen_X3_isOpen : GoodIn wsX6_requireOpen wsX3_isOpen := goodIn_r _ [8, 9, 15, 16, 17, 18] (by decide +kernel) (by decide +kernel)
set_option maxRecDepth 20000 in
theorem gX6_requireOpen_X3_isOpen : GoodIn wsX6_requireOpen (wsV RX6 202 RX3 yX3_isOpen wsX3_isOpen) := goodIn_app (goodIn_of _ (by decide +kernel)) ggX6_requireOpen_X3_isOpen
theorem dX6_requireOpen_0 : decode cX6_requireOpen 0 = .ok (.aload_n 0, 1) := by decide +kernel
theorem dX6_requireOpen_1 : decode cX6_requireOpen 1 = .ok (.getfield 12, 3) := by decide +kernel
theorem dX6_requireOpen_4 : decode cX6_requireOpen 4 = .ok (.iload_n 1, 1) := by decide +kernel
theorem dX6_requireOpen_5 : decode cX6_requireOpen 5 = .ok (.invokevirtual 202, 3) := by decide +kernel
theorem dX6_requireOpen_8 : decode cX6_requireOpen 8 = .ok (.ifCond .ne 13, 3) := by decide +kernel
theorem dX6_requireOpen_11 : decode cX6_requireOpen 11 = .ok (.new 77, 3) := by decide +kernel
theorem dX6_requireOpen_14 : decode cX6_requireOpen 14 = .ok (.dup, 1) := by decide +kernel
theorem dX6_requireOpen_15 : decode cX6_requireOpen 15 = .ok (.ldc 220, 2) := by decide +kernel
theorem dX6_requireOpen_17 : decode cX6_requireOpen 17 = .ok (.invokespecial 81, 3) := by decide +kernel
theorem dX6_requireOpen_20 : decode cX6_requireOpen 20 = .ok (.athrow, 1) := by decide +kernel
theorem dX6_requireOpen_21 : decode cX6_requireOpen 21 = .ok (.return_, 1) := by decide +kernel
theorem dX6_requireReader_0 : decode cX6_requireReader 0 = .ok (.iload_n 0, 1) := by decide +kernel
theorem dX6_requireReader_1 : decode cX6_requireReader 1 = .ok (.ifCond .lt 8, 3) := by decide +kernel
theorem dX6_requireReader_4 : decode cX6_requireReader 4 = .ok (.iload_n 0, 1) := by decide +kernel
theorem dX6_requireReader_5 : decode cX6_requireReader 5 = .ok (.iconst 4, 1) := by decide +kernel
theorem dX6_requireReader_6 : decode cX6_requireReader 6 = .ok (.if_icmp .lt 13, 3) := by decide +kernel
theorem dX6_requireReader_9 : decode cX6_requireReader 9 = .ok (.new 151, 3) := by decide +kernel
theorem dX6_requireReader_12 : decode cX6_requireReader 12 = .ok (.dup, 1) := by decide +kernel
theorem dX6_requireReader_13 : decode cX6_requireReader 13 = .ok (.ldc 222, 2) := by decide +kernel
theorem dX6_requireReader_15 : decode cX6_requireReader 15 = .ok (.invokespecial 155, 3) := by decide +kernel
theorem dX6_requireReader_18 : decode cX6_requireReader 18 = .ok (.athrow, 1) := by decide +kernel
theorem dX6_requireReader_19 : decode cX6_requireReader 19 = .ok (.return_, 1) := by decide +kernel
theorem dX6_requireSlot_0 : decode cX6_requireSlot 0 = .ok (.iload_n 0, 1) := by decide +kernel
theorem dX6_requireSlot_1 : decode cX6_requireSlot 1 = .ok (.ifCond .lt 8, 3) := by decide +kernel
theorem dX6_requireSlot_4 : decode cX6_requireSlot 4 = .ok (.iload_n 0, 1) := by decide +kernel
theorem dX6_requireSlot_5 : decode cX6_requireSlot 5 = .ok (.iconst 2, 1) := by decide +kernel
theorem dX6_requireSlot_6 : decode cX6_requireSlot 6 = .ok (.if_icmp .lt 13, 3) := by decide +kernel
theorem dX6_requireSlot_9 : decode cX6_requireSlot 9 = .ok (.new 151, 3) := by decide +kernel
theorem dX6_requireSlot_12 : decode cX6_requireSlot 12 = .ok (.dup, 1) := by decide +kernel
theorem dX6_requireSlot_13 : decode cX6_requireSlot 13 = .ok (.ldc 224, 2) := by decide +kernel
theorem dX6_requireSlot_15 : decode cX6_requireSlot 15 = .ok (.invokespecial 155, 3) := by decide +kernel
theorem dX6_requireSlot_18 : decode cX6_requireSlot 18 = .ok (.athrow, 1) := by decide +kernel
theorem dX6_requireSlot_19 : decode cX6_requireSlot 19 = .ok (.return_, 1) := by decide +kernel
theorem dX6_requireHash_0 : decode cX6_requireHash 0 = .ok (.iload_n 0, 1) := by decide +kernel
theorem dX6_requireHash_1 : decode cX6_requireHash 1 = .ok (.ifCond .lt 9, 3) := by decide +kernel
theorem dX6_requireHash_4 : decode cX6_requireHash 4 = .ok (.iload_n 0, 1) := by decide +kernel
theorem dX6_requireHash_5 : decode cX6_requireHash 5 = .ok (.bipush 64, 2) := by decide +kernel
theorem dX6_requireHash_7 : decode cX6_requireHash 7 = .ok (.if_icmp .lt 13, 3) := by decide +kernel
theorem dX6_requireHash_10 : decode cX6_requireHash 10 = .ok (.new 151, 3) := by decide +kernel
theorem dX6_requireHash_13 : decode cX6_requireHash 13 = .ok (.dup, 1) := by decide +kernel
theorem dX6_requireHash_14 : decode cX6_requireHash 14 = .ok (.ldc 226, 2) := by decide +kernel
theorem dX6_requireHash_16 : decode cX6_requireHash 16 = .ok (.invokespecial 155, 3) := by decide +kernel
theorem dX6_requireHash_19 : decode cX6_requireHash 19 = .ok (.athrow, 1) := by decide +kernel
theorem dX6_requireHash_20 : decode cX6_requireHash 20 = .ok (.return_, 1) := by decide +kernel
theorem dL_cell_0 : decode cL_cell 0 = .ok (.iload_n 1, 1) := by decide +kernel
theorem dL_cell_1 : decode cL_cell 1 = .ok (.aload_n 0, 1) := by decide +kernel
theorem dL_cell_2 : decode cL_cell 2 = .ok (.arraylength, 1) := by decide +kernel
theorem dL_cell_3 : decode cL_cell 3 = .ok (.if_icmp .ge 9, 3) := by decide +kernel
theorem dL_cell_6 : decode cL_cell 6 = .ok (.aload_n 0, 1) := by decide +kernel
theorem dL_cell_7 : decode cL_cell 7 = .ok (.iload_n 1, 1) := by decide +kernel
theorem dL_cell_8 : decode cL_cell 8 = .ok (.iaload, 1) := by decide +kernel
theorem dL_cell_9 : decode cL_cell 9 = .ok (.goto 11, 3) := by decide +kernel
theorem dL_cell_12 : decode cL_cell 12 = .ok (.ldc 7, 2) := by decide +kernel
theorem dL_cell_14 : decode cL_cell 14 = .ok (.iload_n 1, 1) := by decide +kernel
theorem dL_cell_15 : decode cL_cell 15 = .ok (.sipush 241, 3) := by decide +kernel
theorem dL_cell_18 : decode cL_cell 18 = .ok (.iadd, 1) := by decide +kernel
theorem dL_cell_19 : decode cL_cell 19 = .ok (.imul, 1) := by decide +kernel
theorem dL_cell_20 : decode cL_cell 20 = .ok (.ireturn, 1) := by decide +kernel
theorem dL_up_0 : decode cL_up 0 = .ok (.iload_n 0, 1) := by decide +kernel
theorem dL_up_1 : decode cL_up 1 = .ok (.ldc 8, 2) := by decide +kernel
theorem dL_up_3 : decode cL_up 3 = .ok (.iand, 1) := by decide +kernel
theorem dL_up_4 : decode cL_up 4 = .ok (.iload_n 1, 1) := by decide +kernel
theorem dL_up_5 : decode cL_up 5 = .ok (.irem, 1) := by decide +kernel
theorem dL_up_6 : decode cL_up 6 = .ok (.ireturn, 1) := by decide +kernel
set_option maxRecDepth 20000 in
theorem ggL_told_X6_splits : GoodIn wsL_told wsX6_splits := goodIn_r _ [8, 9, 10, 11, 81, 82, 83, 84, 85, 86, 87, 88, 89, 90, 91, 92] (by decide +kernel) (by decide +kernel)
set_option maxRecDepth 20000 in
theorem gL_told_X6_splits : GoodIn wsL_told (wsV RL 11 RX6 yX6_splits wsX6_splits) := goodIn_app (goodIn_of _ (by decide +kernel)) ggL_told_X6_splits
set_option maxRecDepth 20000 in
theorem ggL_told_X6_merges : GoodIn wsL_told wsX6_merges := goodIn_r _ [15, 9, 10, 16, 81, 82, 83, 84, 85, 86, 87, 88, 89, 90, 91, 92] (by decide +kernel) (by decide +kernel)
set_option maxRecDepth 20000 in
theorem gL_told_X6_merges : GoodIn wsL_told (wsV RL 17 RX6 yX6_merges wsX6_merges) := goodIn_app (goodIn_of _ (by decide +kernel)) ggL_told_X6_merges
set_option maxRecDepth 20000 in
theorem ggL_told_X6_entries : GoodIn wsL_told wsX6_entries := goodIn_r _ [20, 9, 21, 22, 81, 82, 83, 84, 85, 86, 87, 88, 89, 93, 94, 95] (by decide +kernel) (by decide +kernel)
set_option maxRecDepth 20000 in
theorem gL_told_X6_entries : GoodIn wsL_told (wsV RL 20 RX6 yX6_entries wsX6_entries) := goodIn_app (goodIn_of _ (by decide +kernel)) ggL_told_X6_entries
set_option maxRecDepth 20000 in
theorem ggL_told_X6_idAt : GoodIn wsL_told wsX6_idAt := goodIn_ca (goodIn_r _ [26, 27, 28, 9, 21, 22, 29, 30, 31, 32, 33, 34, 81, 82, 83, 84, 85, 86, 87, 88, 89, 93, 94, 95] (by decide +kernel) (by decide +kernel)) (goodIn_sub (fun _ h => List.mem_cons_of_mem _ (List.mem_append_right _ h)) (by decide +kernel))
set_option maxRecDepth 20000 in
theorem gL_told_X6_idAt : GoodIn wsL_told (wsV RL 23 RX6 yX6_idAt wsX6_idAt) := goodIn_app (goodIn_of _ (by decide +kernel)) ggL_told_X6_idAt
set_option maxRecDepth 20000 in
theorem ggL_told_X6_hashOf : GoodIn wsL_told wsX6_hashOf := goodIn_ca (goodIn_r _ [38, 9, 21, 39, 40, 41, 7, 42, 27, 28, 43, 44, 45, 32, 46, 47, 48, 30, 31, 33, 34, 49, 50, 51, 52, 81, 82, 83, 84, 85, 86, 87, 88, 89, 93, 94, 95] (by decide +kernel) (by decide +kernel)) (goodIn_sub (fun _ h => List.mem_cons_of_mem _ (List.mem_append_right _ h)) (by decide +kernel))
set_option maxRecDepth 20000 in
theorem gL_told_X6_hashOf : GoodIn wsL_told (wsV RL 29 RX6 yX6_hashOf wsX6_hashOf) := goodIn_app (goodIn_of _ (by decide +kernel)) ggL_told_X6_hashOf
set_option maxRecDepth 20000 in
theorem ggL_told_X6_letterOf : GoodIn wsL_told wsX6_letterOf := goodIn_ca (goodIn_r _ [56, 27, 28, 9, 21, 57, 39, 40, 41, 7, 42, 43, 44, 45, 32, 46, 47, 48, 30, 31, 33, 34, 58, 59, 60, 61, 62, 63, 64, 81, 82, 83, 84, 85, 86, 87, 88, 89, 93, 94, 95] (by decide +kernel) (by decide +kernel)) (goodIn_sub (fun _ h => List.mem_cons_of_mem _ (List.mem_append_right _ h)) (by decide +kernel))
set_option maxRecDepth 20000 in
theorem gL_told_X6_letterOf : GoodIn wsL_told (wsV RL 32 RX6 yX6_letterOf wsX6_letterOf) := goodIn_app (goodIn_of _ (by decide +kernel)) ggL_told_X6_letterOf
set_option maxRecDepth 20000 in
theorem ggL_told_X6_depthOf : GoodIn wsL_told wsX6_depthOf := goodIn_ca (goodIn_r _ [68, 9, 10, 69, 70, 71, 7, 72, 27, 28, 81, 82, 83, 84, 85, 86, 87, 88, 89, 90, 91, 92] (by decide +kernel) (by decide +kernel)) (goodIn_sub (fun _ h => List.mem_cons_of_mem _ (List.mem_append_right _ h)) (by decide +kernel))
set_option maxRecDepth 20000 in
theorem gL_told_X6_depthOf : GoodIn wsL_told (wsV RL 38 RX6 yX6_depthOf wsX6_depthOf) := goodIn_app (goodIn_of _ (by decide +kernel)) ggL_told_X6_depthOf
set_option maxRecDepth 20000 in
theorem ggL_told_X6_position : GoodIn wsL_told wsX6_position := goodIn_ca (goodIn_r _ [76, 9, 77, 78, 79, 7, 80, 27, 28, 81, 82, 83, 84, 85, 86, 87, 88, 89] (by decide +kernel) (by decide +kernel)) (goodIn_sub (fun _ h => List.mem_cons_of_mem _ (List.mem_append_right _ h)) (by decide +kernel))
set_option maxRecDepth 20000 in
theorem gL_told_X6_position : GoodIn wsL_told (wsV RL 41 RX6 yX6_position wsX6_position) := goodIn_app (goodIn_of _ (by decide +kernel)) ggL_told_X6_position
theorem dL_told_0 : decode cL_told 0 = .ok (.ldc2_w 9, 3) := by decide +kernel
theorem dL_told_3 : decode cL_told 3 = .ok (.aload_n 0, 1) := by decide +kernel
theorem dL_told_4 : decode cL_told 4 = .ok (.invokevirtual 11, 3) := by decide +kernel
theorem dL_told_7 : decode cL_told 7 = .ok (.i2l, 1) := by decide +kernel
theorem dL_told_8 : decode cL_told 8 = .ok (.lmul, 1) := by decide +kernel
theorem dL_told_9 : decode cL_told 9 = .ok (.aload_n 0, 1) := by decide +kernel
theorem dL_told_10 : decode cL_told 10 = .ok (.invokevirtual 17, 3) := by decide +kernel
theorem dL_told_13 : decode cL_told 13 = .ok (.i2l, 1) := by decide +kernel
theorem dL_told_14 : decode cL_told 14 = .ok (.ladd, 1) := by decide +kernel
theorem dL_told_15 : decode cL_told 15 = .ok (.lstore_n 1, 1) := by decide +kernel
theorem dL_told_16 : decode cL_told 16 = .ok (.iconst 0, 1) := by decide +kernel
theorem dL_told_17 : decode cL_told 17 = .ok (.istore_n 3, 1) := by decide +kernel
theorem dL_told_18 : decode cL_told 18 = .ok (.iload_n 3, 1) := by decide +kernel
theorem dL_told_19 : decode cL_told 19 = .ok (.aload_n 0, 1) := by decide +kernel
theorem dL_told_20 : decode cL_told 20 = .ok (.invokevirtual 20, 3) := by decide +kernel
theorem dL_told_23 : decode cL_told 23 = .ok (.if_icmp .ge 79, 3) := by decide +kernel
theorem dL_told_26 : decode cL_told 26 = .ok (.aload_n 0, 1) := by decide +kernel
theorem dL_told_27 : decode cL_told 27 = .ok (.iload_n 3, 1) := by decide +kernel
theorem dL_told_28 : decode cL_told 28 = .ok (.invokevirtual 23, 3) := by decide +kernel
theorem dL_told_31 : decode cL_told 31 = .ok (.istore 4, 2) := by decide +kernel
theorem dL_told_33 : decode cL_told 33 = .ok (.ldc2_w 27, 3) := by decide +kernel
theorem dL_told_36 : decode cL_told 36 = .ok (.ldc2_w 27, 3) := by decide +kernel
theorem dL_told_39 : decode cL_told 39 = .ok (.ldc2_w 27, 3) := by decide +kernel
theorem dL_told_42 : decode cL_told 42 = .ok (.lload_n 1, 1) := by decide +kernel
theorem dL_told_43 : decode cL_told 43 = .ok (.lmul, 1) := by decide +kernel
theorem dL_told_44 : decode cL_told 44 = .ok (.iload 4, 2) := by decide +kernel
theorem dL_told_46 : decode cL_told 46 = .ok (.i2l, 1) := by decide +kernel
theorem dL_told_47 : decode cL_told 47 = .ok (.ladd, 1) := by decide +kernel
theorem dL_told_48 : decode cL_told 48 = .ok (.lmul, 1) := by decide +kernel
theorem dL_told_49 : decode cL_told 49 = .ok (.aload_n 0, 1) := by decide +kernel
theorem dL_told_50 : decode cL_told 50 = .ok (.iload 4, 2) := by decide +kernel
theorem dL_told_52 : decode cL_told 52 = .ok (.invokevirtual 29, 3) := by decide +kernel
theorem dL_told_55 : decode cL_told 55 = .ok (.i2l, 1) := by decide +kernel
theorem dL_told_56 : decode cL_told 56 = .ok (.ladd, 1) := by decide +kernel
theorem dL_told_57 : decode cL_told 57 = .ok (.lmul, 1) := by decide +kernel
theorem dL_told_58 : decode cL_told 58 = .ok (.aload_n 0, 1) := by decide +kernel
theorem dL_told_59 : decode cL_told 59 = .ok (.iload 4, 2) := by decide +kernel
theorem dL_told_61 : decode cL_told 61 = .ok (.iconst 0, 1) := by decide +kernel
theorem dL_told_62 : decode cL_told 62 = .ok (.invokevirtual 32, 3) := by decide +kernel
theorem dL_told_65 : decode cL_told 65 = .ok (.i2l, 1) := by decide +kernel
theorem dL_told_66 : decode cL_told 66 = .ok (.ladd, 1) := by decide +kernel
theorem dL_told_67 : decode cL_told 67 = .ok (.lstore_n 1, 1) := by decide +kernel
theorem dL_told_68 : decode cL_told 68 = .ok (.ldc2_w 27, 3) := by decide +kernel
theorem dL_told_71 : decode cL_told 71 = .ok (.ldc2_w 27, 3) := by decide +kernel
theorem dL_told_74 : decode cL_told 74 = .ok (.lload_n 1, 1) := by decide +kernel
theorem dL_told_75 : decode cL_told 75 = .ok (.lmul, 1) := by decide +kernel
theorem dL_told_76 : decode cL_told 76 = .ok (.aload_n 0, 1) := by decide +kernel
theorem dL_told_77 : decode cL_told 77 = .ok (.iload 4, 2) := by decide +kernel
theorem dL_told_79 : decode cL_told 79 = .ok (.iconst 1, 1) := by decide +kernel
theorem dL_told_80 : decode cL_told 80 = .ok (.invokevirtual 32, 3) := by decide +kernel
theorem dL_told_83 : decode cL_told 83 = .ok (.i2l, 1) := by decide +kernel
theorem dL_told_84 : decode cL_told 84 = .ok (.ladd, 1) := by decide +kernel
theorem dL_told_85 : decode cL_told 85 = .ok (.lmul, 1) := by decide +kernel
theorem dL_told_86 : decode cL_told 86 = .ok (.aload_n 0, 1) := by decide +kernel
theorem dL_told_87 : decode cL_told 87 = .ok (.iload 4, 2) := by decide +kernel
theorem dL_told_89 : decode cL_told 89 = .ok (.iconst 2, 1) := by decide +kernel
theorem dL_told_90 : decode cL_told 90 = .ok (.invokevirtual 32, 3) := by decide +kernel
theorem dL_told_93 : decode cL_told 93 = .ok (.i2l, 1) := by decide +kernel
theorem dL_told_94 : decode cL_told 94 = .ok (.ladd, 1) := by decide +kernel
theorem dL_told_95 : decode cL_told 95 = .ok (.lstore_n 1, 1) := by decide +kernel
theorem dL_told_96 : decode cL_told 96 = .ok (.iinc 3 1, 3) := by decide +kernel
theorem dL_told_99 : decode cL_told 99 = .ok (.goto (-81), 3) := by decide +kernel
theorem dL_told_102 : decode cL_told 102 = .ok (.iconst 0, 1) := by decide +kernel
theorem dL_told_103 : decode cL_told 103 = .ok (.istore_n 3, 1) := by decide +kernel
theorem dL_told_104 : decode cL_told 104 = .ok (.iload_n 3, 1) := by decide +kernel
theorem dL_told_105 : decode cL_told 105 = .ok (.bipush 64, 2) := by decide +kernel
theorem dL_told_107 : decode cL_told 107 = .ok (.if_icmp .ge 22, 3) := by decide +kernel
theorem dL_told_110 : decode cL_told 110 = .ok (.ldc2_w 36, 3) := by decide +kernel
theorem dL_told_113 : decode cL_told 113 = .ok (.lload_n 1, 1) := by decide +kernel
theorem dL_told_114 : decode cL_told 114 = .ok (.lmul, 1) := by decide +kernel
theorem dL_told_115 : decode cL_told 115 = .ok (.aload_n 0, 1) := by decide +kernel
theorem dL_told_116 : decode cL_told 116 = .ok (.iload_n 3, 1) := by decide +kernel
theorem dL_told_117 : decode cL_told 117 = .ok (.invokevirtual 38, 3) := by decide +kernel
theorem dL_told_120 : decode cL_told 120 = .ok (.i2l, 1) := by decide +kernel
theorem dL_told_121 : decode cL_told 121 = .ok (.ladd, 1) := by decide +kernel
theorem dL_told_122 : decode cL_told 122 = .ok (.lstore_n 1, 1) := by decide +kernel
theorem dL_told_123 : decode cL_told 123 = .ok (.iinc 3 1, 3) := by decide +kernel
theorem dL_told_126 : decode cL_told 126 = .ok (.goto (-22), 3) := by decide +kernel
theorem dL_told_129 : decode cL_told 129 = .ok (.iconst 0, 1) := by decide +kernel
theorem dL_told_130 : decode cL_told 130 = .ok (.istore_n 3, 1) := by decide +kernel
theorem dL_told_131 : decode cL_told 131 = .ok (.iload_n 3, 1) := by decide +kernel
theorem dL_told_132 : decode cL_told 132 = .ok (.iconst 4, 1) := by decide +kernel
theorem dL_told_133 : decode cL_told 133 = .ok (.if_icmp .ge 22, 3) := by decide +kernel
theorem dL_told_136 : decode cL_told 136 = .ok (.ldc2_w 27, 3) := by decide +kernel
theorem dL_told_139 : decode cL_told 139 = .ok (.lload_n 1, 1) := by decide +kernel
theorem dL_told_140 : decode cL_told 140 = .ok (.lmul, 1) := by decide +kernel
theorem dL_told_141 : decode cL_told 141 = .ok (.aload_n 0, 1) := by decide +kernel
theorem dL_told_142 : decode cL_told 142 = .ok (.iload_n 3, 1) := by decide +kernel
theorem dL_told_143 : decode cL_told 143 = .ok (.invokevirtual 41, 3) := by decide +kernel
theorem dL_told_146 : decode cL_told 146 = .ok (.i2l, 1) := by decide +kernel
theorem dL_told_147 : decode cL_told 147 = .ok (.ladd, 1) := by decide +kernel
theorem dL_told_148 : decode cL_told 148 = .ok (.lstore_n 1, 1) := by decide +kernel
theorem dL_told_149 : decode cL_told 149 = .ok (.iinc 3 1, 3) := by decide +kernel
theorem dL_told_152 : decode cL_told 152 = .ok (.goto (-21), 3) := by decide +kernel
theorem dL_told_155 : decode cL_told 155 = .ok (.lload_n 1, 1) := by decide +kernel
theorem dL_told_156 : decode cL_told 156 = .ok (.lreturn, 1) := by decide +kernel
set_option maxRecDepth 20000 in
theorem ggL_types_X6_clearText : GoodIn wsL_types wsX6_clearText := goodIn_r _ [5, 6, 7, 8, 9, 10, 11, 12, 13, 27, 28, 29, 30, 31, 32, 33] (by decide +kernel) (by decide +kernel)
set_option maxRecDepth 20000 in
theorem gL_types_X6_clearText : GoodIn wsL_types (wsV RL 44 RX6 yX6_clearText wsX6_clearText) := goodIn_app (goodIn_of _ (by decide +kernel)) ggL_types_X6_clearText
set_option maxRecDepth 20000 in
theorem ggL_types_X6_appendText : GoodIn wsL_types wsX6_appendText := goodIn_ca (goodIn_ca (goodIn_r _ [17, 18, 19, 20, 21, 6, 7, 22, 23, 24, 11, 25, 26, 13, 27, 28, 29, 30, 31, 32, 33] (by decide +kernel) (by decide +kernel)) (goodIn_sub (fun _ h => List.mem_cons_of_mem _ (List.mem_append_left _ (List.mem_append_right _ h))) (by decide +kernel))) (goodIn_sub (fun _ h => List.mem_cons_of_mem _ (List.mem_append_right _ h)) (by decide +kernel))
set_option maxRecDepth 20000 in
theorem gL_types_X6_appendText : GoodIn wsL_types (wsV RL 47 RX6 yX6_appendText wsX6_appendText) := goodIn_app (goodIn_of _ (by decide +kernel)) ggL_types_X6_appendText
