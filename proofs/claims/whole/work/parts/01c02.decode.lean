theorem dX6_peek_0 : decode cX6_peek 0 = .ok (.iload_n 1, 1) := by decide +kernel
theorem dX6_peek_1 : decode cX6_peek 1 = .ok (.invokestatic 84, 3) := by decide +kernel
theorem dX6_peek_4 : decode cX6_peek 4 = .ok (.aload_n 0, 1) := by decide +kernel
theorem dX6_peek_5 : decode cX6_peek 5 = .ok (.getfield 12, 3) := by decide +kernel
theorem dX6_peek_8 : decode cX6_peek 8 = .ok (.iload_n 1, 1) := by decide +kernel
theorem dX6_peek_9 : decode cX6_peek 9 = .ok (.invokevirtual 202, 3) := by decide +kernel
theorem dX6_peek_12 : decode cX6_peek 12 = .ok (.ifCond .ne 6, 3) := by decide +kernel
theorem dX6_peek_15 : decode cX6_peek 15 = .ok (.bipush (-2), 2) := by decide +kernel
theorem dX6_peek_17 : decode cX6_peek 17 = .ok (.ireturn, 1) := by decide +kernel
theorem dX6_peek_18 : decode cX6_peek 18 = .ok (.aload_n 0, 1) := by decide +kernel
theorem dX6_peek_19 : decode cX6_peek 19 = .ok (.getfield 12, 3) := by decide +kernel
theorem dX6_peek_22 : decode cX6_peek 22 = .ok (.iload_n 1, 1) := by decide +kernel
theorem dX6_peek_23 : decode cX6_peek 23 = .ok (.invokevirtual 97, 3) := by decide +kernel
theorem dX6_peek_26 : decode cX6_peek 26 = .ok (.istore_n 2, 1) := by decide +kernel
theorem dX6_peek_27 : decode cX6_peek 27 = .ok (.iload_n 2, 1) := by decide +kernel
theorem dX6_peek_28 : decode cX6_peek 28 = .ok (.aload_n 0, 1) := by decide +kernel
theorem dX6_peek_29 : decode cX6_peek 29 = .ok (.getfield 12, 3) := by decide +kernel
theorem dX6_peek_32 : decode cX6_peek 32 = .ok (.getfield 63, 3) := by decide +kernel
theorem dX6_peek_35 : decode cX6_peek 35 = .ok (.getfield 67, 3) := by decide +kernel
theorem dX6_peek_38 : decode cX6_peek 38 = .ok (.if_icmp .ge 17, 3) := by decide +kernel
theorem dX6_peek_41 : decode cX6_peek 41 = .ok (.aload_n 0, 1) := by decide +kernel
theorem dX6_peek_42 : decode cX6_peek 42 = .ok (.getfield 12, 3) := by decide +kernel
theorem dX6_peek_45 : decode cX6_peek 45 = .ok (.getfield 63, 3) := by decide +kernel
theorem dX6_peek_48 : decode cX6_peek 48 = .ok (.iload_n 2, 1) := by decide +kernel
theorem dX6_peek_49 : decode cX6_peek 49 = .ok (.invokevirtual 103, 3) := by decide +kernel
theorem dX6_peek_52 : decode cX6_peek 52 = .ok (.goto 5, 3) := by decide +kernel
theorem dX6_peek_55 : decode cX6_peek 55 = .ok (.bipush (-2), 2) := by decide +kernel
theorem dX6_peek_57 : decode cX6_peek 57 = .ok (.ireturn, 1) := by decide +kernel
set_option maxRecDepth 20000 in
theorem ggX6_remaining_X6_requireReader : GoodIn wsX6_remaining wsX6_requireReader := goodIn_ca (goodIn_r _ [7, 8, 9] (by decide +kernel) (by decide +kernel)) (goodIn_sub (fun _ h => List.mem_cons_of_mem _ (List.mem_append_right _ h)) (by decide +kernel))
set_option maxRecDepth 20000 in
theorem gX6_remaining_X6_requireReader : GoodIn wsX6_remaining (va_wsS RX6 84 yX6_requireReader wsX6_requireReader) := goodIn_app (goodIn_of _ (by decide +kernel)) ggX6_remaining_X6_requireReader
set_option maxRecDepth 20000 in
theorem ggX6_remaining_X3_isOpen : GoodIn wsX6_remaining wsX3_isOpen := goodIn_r _ [14, 15, 33, 34, 35, 36] (by decide +kernel) (by decide +kernel)
set_option maxRecDepth 20000 in
theorem gX6_remaining_X3_isOpen : GoodIn wsX6_remaining (wsV RX6 202 RX3 yX3_isOpen wsX3_isOpen) := goodIn_app (goodIn_of _ (by decide +kernel)) ggX6_remaining_X3_isOpen
set_option maxRecDepth 20000 in
theorem ggX6_remaining_X3_nextPlace : GoodIn wsX6_remaining wsX3_nextPlace := goodIn_r _ [19, 20, 15, 21, 22, 23, 24, 25, 26, 27, 33, 34, 35, 36, 37, 38, 39] (by decide +kernel) (by decide +kernel)
set_option maxRecDepth 20000 in
theorem gX6_remaining_X3_nextPlace : GoodIn wsX6_remaining (wsV RX6 97 RX3 yX3_nextPlace wsX3_nextPlace) := goodIn_app (goodIn_of _ (by decide +kernel)) ggX6_remaining_X3_nextPlace
theorem dX6_remaining_0 : decode cX6_remaining 0 = .ok (.iload_n 1, 1) := by decide +kernel
theorem dX6_remaining_1 : decode cX6_remaining 1 = .ok (.invokestatic 84, 3) := by decide +kernel
theorem dX6_remaining_4 : decode cX6_remaining 4 = .ok (.aload_n 0, 1) := by decide +kernel
theorem dX6_remaining_5 : decode cX6_remaining 5 = .ok (.getfield 12, 3) := by decide +kernel
theorem dX6_remaining_8 : decode cX6_remaining 8 = .ok (.iload_n 1, 1) := by decide +kernel
theorem dX6_remaining_9 : decode cX6_remaining 9 = .ok (.invokevirtual 202, 3) := by decide +kernel
theorem dX6_remaining_12 : decode cX6_remaining 12 = .ok (.ifCond .ne 6, 3) := by decide +kernel
theorem dX6_remaining_15 : decode cX6_remaining 15 = .ok (.bipush (-2), 2) := by decide +kernel
theorem dX6_remaining_17 : decode cX6_remaining 17 = .ok (.ireturn, 1) := by decide +kernel
theorem dX6_remaining_18 : decode cX6_remaining 18 = .ok (.aload_n 0, 1) := by decide +kernel
theorem dX6_remaining_19 : decode cX6_remaining 19 = .ok (.getfield 12, 3) := by decide +kernel
theorem dX6_remaining_22 : decode cX6_remaining 22 = .ok (.getfield 63, 3) := by decide +kernel
theorem dX6_remaining_25 : decode cX6_remaining 25 = .ok (.getfield 67, 3) := by decide +kernel
theorem dX6_remaining_28 : decode cX6_remaining 28 = .ok (.aload_n 0, 1) := by decide +kernel
theorem dX6_remaining_29 : decode cX6_remaining 29 = .ok (.getfield 12, 3) := by decide +kernel
theorem dX6_remaining_32 : decode cX6_remaining 32 = .ok (.iload_n 1, 1) := by decide +kernel
theorem dX6_remaining_33 : decode cX6_remaining 33 = .ok (.invokevirtual 97, 3) := by decide +kernel
theorem dX6_remaining_36 : decode cX6_remaining 36 = .ok (.isub, 1) := by decide +kernel
theorem dX6_remaining_37 : decode cX6_remaining 37 = .ok (.ireturn, 1) := by decide +kernel
theorem dX6_savedStates_0 : decode cX6_savedStates 0 = .ok (.aload_n 0, 1) := by decide +kernel
theorem dX6_savedStates_1 : decode cX6_savedStates 1 = .ok (.getfield 19, 3) := by decide +kernel
theorem dX6_savedStates_4 : decode cX6_savedStates 4 = .ok (.getfield 137, 3) := by decide +kernel
theorem dX6_savedStates_7 : decode cX6_savedStates 7 = .ok (.ireturn, 1) := by decide +kernel
theorem dX6_textLength_0 : decode cX6_textLength 0 = .ok (.aload_n 0, 1) := by decide +kernel
theorem dX6_textLength_1 : decode cX6_textLength 1 = .ok (.getfield 34, 3) := by decide +kernel
theorem dX6_textLength_4 : decode cX6_textLength 4 = .ok (.getfield 117, 3) := by decide +kernel
theorem dX6_textLength_7 : decode cX6_textLength 7 = .ok (.ireturn, 1) := by decide +kernel
set_option maxRecDepth 20000 in
theorem ggX6_nameInText_X4_nameBetween : GoodIn wsX6_nameInText wsX4_nameBetween := goodIn_r _ [9, 10, 11, 12, 13, 14, 15, 16, 17, 18, 19, 20, 26, 27] (by decide +kernel) (by decide +kernel)
set_option maxRecDepth 20000 in
theorem gX6_nameInText_X4_nameBetween : GoodIn wsX6_nameInText (wsV RX6 205 RX4 yX4_nameBetween wsX4_nameBetween) := goodIn_app (goodIn_of _ (by decide +kernel)) ggX6_nameInText_X4_nameBetween
theorem dX6_nameInText_0 : decode cX6_nameInText 0 = .ok (.aload_n 0, 1) := by decide +kernel
theorem dX6_nameInText_1 : decode cX6_nameInText 1 = .ok (.getfield 34, 3) := by decide +kernel
theorem dX6_nameInText_4 : decode cX6_nameInText 4 = .ok (.iconst 0, 1) := by decide +kernel
theorem dX6_nameInText_5 : decode cX6_nameInText 5 = .ok (.aload_n 0, 1) := by decide +kernel
theorem dX6_nameInText_6 : decode cX6_nameInText 6 = .ok (.getfield 34, 3) := by decide +kernel
theorem dX6_nameInText_9 : decode cX6_nameInText 9 = .ok (.getfield 117, 3) := by decide +kernel
theorem dX6_nameInText_12 : decode cX6_nameInText 12 = .ok (.invokevirtual 205, 3) := by decide +kernel
theorem dX6_nameInText_15 : decode cX6_nameInText 15 = .ok (.istore_n 1, 1) := by decide +kernel
theorem dX6_nameInText_16 : decode cX6_nameInText 16 = .ok (.iload_n 1, 1) := by decide +kernel
theorem dX6_nameInText_17 : decode cX6_nameInText 17 = .ok (.ifCond .ne 13, 3) := by decide +kernel
theorem dX6_nameInText_20 : decode cX6_nameInText 20 = .ok (.new 110, 3) := by decide +kernel
theorem dX6_nameInText_23 : decode cX6_nameInText 23 = .ok (.dup, 1) := by decide +kernel
theorem dX6_nameInText_24 : decode cX6_nameInText 24 = .ok (.ldc 208, 2) := by decide +kernel
theorem dX6_nameInText_26 : decode cX6_nameInText 26 = .ok (.invokespecial 114, 3) := by decide +kernel
theorem dX6_nameInText_29 : decode cX6_nameInText 29 = .ok (.athrow, 1) := by decide +kernel
theorem dX6_nameInText_30 : decode cX6_nameInText 30 = .ok (.iload_n 1, 1) := by decide +kernel
theorem dX6_nameInText_31 : decode cX6_nameInText 31 = .ok (.ireturn, 1) := by decide +kernel
set_option maxRecDepth 20000 in
theorem ggX6_placeOfEntry_X0_placeOfId : GoodIn wsX6_placeOfEntry wsX0_placeOfId := goodIn_r _ [9, 10, 11, 12, 13, 8, 14, 15, 25, 26, 27] (by decide +kernel) (by decide +kernel)
set_option maxRecDepth 20000 in
theorem gX6_placeOfEntry_X0_placeOfId : GoodIn wsX6_placeOfEntry (wsV RX6 210 RX0 yX0_placeOfId wsX0_placeOfId) := goodIn_app (goodIn_of _ (by decide +kernel)) ggX6_placeOfEntry_X0_placeOfId
theorem dX6_placeOfEntry_0 : decode cX6_placeOfEntry 0 = .ok (.aload_n 0, 1) := by decide +kernel
theorem dX6_placeOfEntry_1 : decode cX6_placeOfEntry 1 = .ok (.getfield 12, 3) := by decide +kernel
theorem dX6_placeOfEntry_4 : decode cX6_placeOfEntry 4 = .ok (.getfield 63, 3) := by decide +kernel
theorem dX6_placeOfEntry_7 : decode cX6_placeOfEntry 7 = .ok (.iload_n 1, 1) := by decide +kernel
theorem dX6_placeOfEntry_8 : decode cX6_placeOfEntry 8 = .ok (.invokevirtual 210, 3) := by decide +kernel
theorem dX6_placeOfEntry_11 : decode cX6_placeOfEntry 11 = .ok (.istore_n 2, 1) := by decide +kernel
theorem dX6_placeOfEntry_12 : decode cX6_placeOfEntry 12 = .ok (.iload_n 2, 1) := by decide +kernel
theorem dX6_placeOfEntry_13 : decode cX6_placeOfEntry 13 = .ok (.iconst (-1), 1) := by decide +kernel
theorem dX6_placeOfEntry_14 : decode cX6_placeOfEntry 14 = .ok (.if_icmp .ne 13, 3) := by decide +kernel
theorem dX6_placeOfEntry_17 : decode cX6_placeOfEntry 17 = .ok (.new 151, 3) := by decide +kernel
theorem dX6_placeOfEntry_20 : decode cX6_placeOfEntry 20 = .ok (.dup, 1) := by decide +kernel
theorem dX6_placeOfEntry_21 : decode cX6_placeOfEntry 21 = .ok (.ldc 213, 2) := by decide +kernel
theorem dX6_placeOfEntry_23 : decode cX6_placeOfEntry 23 = .ok (.invokespecial 155, 3) := by decide +kernel
theorem dX6_placeOfEntry_26 : decode cX6_placeOfEntry 26 = .ok (.athrow, 1) := by decide +kernel
theorem dX6_placeOfEntry_27 : decode cX6_placeOfEntry 27 = .ok (.iload_n 2, 1) := by decide +kernel
theorem dX6_placeOfEntry_28 : decode cX6_placeOfEntry 28 = .ok (.ireturn, 1) := by decide +kernel
set_option maxRecDepth 20000 in
theorem ggX6_requireAddable_X3_canAdd : GoodIn wsX6_requireAddable wsX3_canAdd := goodIn_r _ [8, 9, 10, 11, 12, 13, 14, 15, 16, 17, 18, 7, 19, 20, 21, 22, 23, 24, 25, 31, 32, 33, 34, 35, 36, 37] (by decide +kernel) (by decide +kernel)
set_option maxRecDepth 20000 in
theorem gX6_requireAddable_X3_canAdd : GoodIn wsX6_requireAddable (wsV RX6 215 RX3 yX3_canAdd wsX3_canAdd) := goodIn_app (goodIn_of _ (by decide +kernel)) ggX6_requireAddable_X3_canAdd
theorem dX6_requireAddable_0 : decode cX6_requireAddable 0 = .ok (.aload_n 0, 1) := by decide +kernel
theorem dX6_requireAddable_1 : decode cX6_requireAddable 1 = .ok (.getfield 12, 3) := by decide +kernel
theorem dX6_requireAddable_4 : decode cX6_requireAddable 4 = .ok (.iload_n 1, 1) := by decide +kernel
theorem dX6_requireAddable_5 : decode cX6_requireAddable 5 = .ok (.invokevirtual 215, 3) := by decide +kernel
theorem dX6_requireAddable_8 : decode cX6_requireAddable 8 = .ok (.ifCond .ne 13, 3) := by decide +kernel
theorem dX6_requireAddable_11 : decode cX6_requireAddable 11 = .ok (.new 77, 3) := by decide +kernel
theorem dX6_requireAddable_14 : decode cX6_requireAddable 14 = .ok (.dup, 1) := by decide +kernel
theorem dX6_requireAddable_15 : decode cX6_requireAddable 15 = .ok (.ldc 218, 2) := by decide +kernel
theorem dX6_requireAddable_17 : decode cX6_requireAddable 17 = .ok (.invokespecial 81, 3) := by decide +kernel
theorem dX6_requireAddable_20 : decode cX6_requireAddable 20 = .ok (.athrow, 1) := by decide +kernel
theorem dX6_requireAddable_21 : decode cX6_requireAddable 21 = .ok (.return_, 1) := by decide +kernel
set_option maxRecDepth 20000 in
theorem ggX6_requireOpen_X3_isOpen : GoodIn wsX6_requireOpen wsX3_isOpen := goodIn_r _ [8, 9, 15, 16, 17, 18] (by decide +kernel) (by decide +kernel)
set_option maxRecDepth 20000 in
theorem gX6_requireOpen_X3_isOpen : GoodIn wsX6_requireOpen (wsV RX6 202 RX3 yX3_isOpen wsX3_isOpen) := goodIn_app (goodIn_of _ (by decide +kernel)) ggX6_requireOpen_X3_isOpen
theorem dX6_requireOpen_0 : decode cX6_requireOpen 0 = .ok (.aload_n 0, 1) := by decide +kernel
theorem dX6_requireOpen_1 : decode cX6_requireOpen 1 = .ok (.getfield 12, 3) := by decide +kernel
theorem dX6_requireOpen_4 : decode cX6_requireOpen 4 = .ok (.iload_n 1, 1) := by decide +kernel
theorem dX6_requireOpen_5 : decode cX6_requireOpen 5 = .ok (.invokevirtual 202, 3) := by decide +kernel
theorem dX6_requireOpen_8 : decode cX6_requireOpen 8 = .ok (.ifCond .ne 13, 3) := by decide +kernel
theorem dX6_requireOpen_11 : decode cX6_requireOpen 11 = .ok (.new 77, 3) := by decide +kernel
theorem dX6_requireOpen_14 : decode cX6_requireOpen 14 = .ok (.dup, 1) := by decide +kernel
theorem dX6_requireOpen_15 : decode cX6_requireOpen 15 = .ok (.ldc 220, 2) := by decide +kernel
theorem dX6_requireOpen_17 : decode cX6_requireOpen 17 = .ok (.invokespecial 81, 3) := by decide +kernel
theorem dX6_requireOpen_20 : decode cX6_requireOpen 20 = .ok (.athrow, 1) := by decide +kernel
theorem dX6_requireOpen_21 : decode cX6_requireOpen 21 = .ok (.return_, 1) := by decide +kernel
theorem dX6_requireReader_0 : decode cX6_requireReader 0 = .ok (.iload_n 0, 1) := by decide +kernel
theorem dX6_requireReader_1 : decode cX6_requireReader 1 = .ok (.ifCond .lt 8, 3) := by decide +kernel
theorem dX6_requireReader_4 : decode cX6_requireReader 4 = .ok (.iload_n 0, 1) := by decide +kernel
theorem dX6_requireReader_5 : decode cX6_requireReader 5 = .ok (.iconst 4, 1) := by decide +kernel
theorem dX6_requireReader_6 : decode cX6_requireReader 6 = .ok (.if_icmp .lt 13, 3) := by decide +kernel
theorem dX6_requireReader_9 : decode cX6_requireReader 9 = .ok (.new 151, 3) := by decide +kernel
theorem dX6_requireReader_12 : decode cX6_requireReader 12 = .ok (.dup, 1) := by decide +kernel
theorem dX6_requireReader_13 : decode cX6_requireReader 13 = .ok (.ldc 222, 2) := by decide +kernel
theorem dX6_requireReader_15 : decode cX6_requireReader 15 = .ok (.invokespecial 155, 3) := by decide +kernel
theorem dX6_requireReader_18 : decode cX6_requireReader 18 = .ok (.athrow, 1) := by decide +kernel
theorem dX6_requireReader_19 : decode cX6_requireReader 19 = .ok (.return_, 1) := by decide +kernel
theorem dX6_requireSlot_0 : decode cX6_requireSlot 0 = .ok (.iload_n 0, 1) := by decide +kernel
theorem dX6_requireSlot_1 : decode cX6_requireSlot 1 = .ok (.ifCond .lt 8, 3) := by decide +kernel
theorem dX6_requireSlot_4 : decode cX6_requireSlot 4 = .ok (.iload_n 0, 1) := by decide +kernel
theorem dX6_requireSlot_5 : decode cX6_requireSlot 5 = .ok (.iconst 2, 1) := by decide +kernel
theorem dX6_requireSlot_6 : decode cX6_requireSlot 6 = .ok (.if_icmp .lt 13, 3) := by decide +kernel
theorem dX6_requireSlot_9 : decode cX6_requireSlot 9 = .ok (.new 151, 3) := by decide +kernel
theorem dX6_requireSlot_12 : decode cX6_requireSlot 12 = .ok (.dup, 1) := by decide +kernel
theorem dX6_requireSlot_13 : decode cX6_requireSlot 13 = .ok (.ldc 224, 2) := by decide +kernel
theorem dX6_requireSlot_15 : decode cX6_requireSlot 15 = .ok (.invokespecial 155, 3) := by decide +kernel
theorem dX6_requireSlot_18 : decode cX6_requireSlot 18 = .ok (.athrow, 1) := by decide +kernel
theorem dX6_requireSlot_19 : decode cX6_requireSlot 19 = .ok (.return_, 1) := by decide +kernel
theorem dX6_requireHash_0 : decode cX6_requireHash 0 = .ok (.iload_n 0, 1) := by decide +kernel
theorem dX6_requireHash_1 : decode cX6_requireHash 1 = .ok (.ifCond .lt 9, 3) := by decide +kernel
theorem dX6_requireHash_4 : decode cX6_requireHash 4 = .ok (.iload_n 0, 1) := by decide +kernel
theorem dX6_requireHash_5 : decode cX6_requireHash 5 = .ok (.bipush 64, 2) := by decide +kernel
theorem dX6_requireHash_7 : decode cX6_requireHash 7 = .ok (.if_icmp .lt 13, 3) := by decide +kernel
theorem dX6_requireHash_10 : decode cX6_requireHash 10 = .ok (.new 151, 3) := by decide +kernel
theorem dX6_requireHash_13 : decode cX6_requireHash 13 = .ok (.dup, 1) := by decide +kernel
theorem dX6_requireHash_14 : decode cX6_requireHash 14 = .ok (.ldc 226, 2) := by decide +kernel
theorem dX6_requireHash_16 : decode cX6_requireHash 16 = .ok (.invokespecial 155, 3) := by decide +kernel
theorem dX6_requireHash_19 : decode cX6_requireHash 19 = .ok (.athrow, 1) := by decide +kernel
theorem dX6_requireHash_20 : decode cX6_requireHash 20 = .ok (.return_, 1) := by decide +kernel
set_option maxRecDepth 20000 in
theorem ggX6_runCommand_X4_charIn : GoodIn wsX6_runCommand wsX4_charIn := goodIn_r _ [6, 7, 133, 134] (by decide +kernel) (by decide +kernel)
set_option maxRecDepth 20000 in
theorem gX6_runCommand_X4_charIn : GoodIn wsX6_runCommand (wsV RX6 228 RX4 yX4_charIn wsX4_charIn) := goodIn_app (goodIn_of _ (by decide +kernel)) ggX6_runCommand_X4_charIn
set_option maxRecDepth 20000 in
theorem ggX6_runCommand_X4_nameBetween : GoodIn wsX6_runCommand wsX4_nameBetween := goodIn_r _ [11, 7, 12, 13, 14, 15, 16, 17, 18, 19, 20, 21, 133, 134] (by decide +kernel) (by decide +kernel)
set_option maxRecDepth 20000 in
theorem gX6_runCommand_X4_nameBetween : GoodIn wsX6_runCommand (wsV RX6 205 RX4 yX4_nameBetween wsX4_nameBetween) := goodIn_app (goodIn_of _ (by decide +kernel)) ggX6_runCommand_X4_nameBetween
set_option maxRecDepth 20000 in
theorem ggX6_runCommand_X6_runAdd : GoodIn wsX6_runCommand wsX6_runAdd := goodIn_r _ [26, 27, 28, 29, 30, 31, 32, 33, 34, 35, 36, 37, 38, 39, 40, 41, 42, 43, 44, 45, 46, 47, 48, 49, 50, 51, 52, 53, 54, 55, 56, 14, 57, 58, 59, 60, 19, 20, 21, 61, 62, 63, 64, 65, 66, 67, 68, 69, 70, 71, 72, 73, 74, 75, 76, 77, 78, 79, 80, 81, 82, 83, 84, 85, 86, 87, 88, 89, 90, 91, 92, 128, 129, 130, 131, 132, 135, 136, 137, 138, 139, 140, 141, 142, 143, 144] (by decide +kernel) (by decide +kernel)
set_option maxRecDepth 20000 in
theorem gX6_runCommand_X6_runAdd : GoodIn wsX6_runCommand (wsV RX6 231 RX6 yX6_runAdd wsX6_runAdd) := goodIn_app (goodIn_of _ (by decide +kernel)) ggX6_runCommand_X6_runAdd
set_option maxRecDepth 20000 in
theorem ggX6_runCommand_X6_runRemove : GoodIn wsX6_runCommand wsX6_runRemove := goodIn_r _ [96, 27, 97, 98, 46, 47, 37, 48, 39, 49, 99, 100, 101, 31, 102, 33, 54, 103, 104, 105, 106, 65, 107, 108, 109, 110, 111, 112, 113, 73, 114, 75, 115, 116, 117, 118, 77, 78, 79, 80, 81, 82, 83, 84, 85, 86, 66, 67, 68, 69, 87, 88, 89, 90, 91, 92, 128, 129, 130, 131, 132, 135, 136, 137, 138, 139, 140, 141, 142, 143, 144] (by decide +kernel) (by decide +kernel)
set_option maxRecDepth 20000 in
theorem gX6_runCommand_X6_runRemove : GoodIn wsX6_runCommand (wsV RX6 234 RX6 yX6_runRemove wsX6_runRemove) := goodIn_app (goodIn_of _ (by decide +kernel)) ggX6_runCommand_X6_runRemove
set_option maxRecDepth 20000 in
theorem ggX6_runCommand_X4_indexOf : GoodIn wsX6_runCommand wsX4_indexOf := goodIn_r _ [122, 7, 133, 134] (by decide +kernel) (by decide +kernel)
set_option maxRecDepth 20000 in
theorem gX6_runCommand_X4_indexOf : GoodIn wsX6_runCommand (wsV RX6 237 RX4 yX4_indexOf wsX4_indexOf) := goodIn_app (goodIn_of _ (by decide +kernel)) ggX6_runCommand_X4_indexOf
set_option maxRecDepth 20000 in
theorem ggX6_runCommand_X6_runRename : GoodIn wsX6_runCommand wsX6_runRename := goodIn_r _ [126, 27, 97, 98, 46, 47, 37, 48, 39, 49, 127, 41, 42, 31, 43, 44, 33, 45, 99, 100, 101, 102, 54, 103, 104, 105, 106, 65, 107, 108, 109, 110, 111, 112, 113, 73, 114, 75, 115, 116, 117, 118, 77, 78, 79, 80, 81, 82, 83, 84, 85, 86, 66, 67, 68, 69, 87, 88, 89, 90, 91, 92, 50, 51, 52, 53, 55, 56, 14, 57, 58, 59, 60, 19, 20, 21, 61, 62, 63, 64, 70, 71, 72, 74, 76, 128, 129, 130, 131, 132, 135, 136, 137, 138, 139, 140, 141, 142, 143, 144] (by decide +kernel) (by decide +kernel)
set_option maxRecDepth 20000 in
theorem gX6_runCommand_X6_runRename : GoodIn wsX6_runCommand (wsV RX6 241 RX6 yX6_runRename wsX6_runRename) := goodIn_app (goodIn_of _ (by decide +kernel)) ggX6_runCommand_X6_runRename
theorem dX6_runCommand_0 : decode cX6_runCommand 0 = .ok (.aload_n 0, 1) := by decide +kernel
theorem dX6_runCommand_1 : decode cX6_runCommand 1 = .ok (.getfield 34, 3) := by decide +kernel
theorem dX6_runCommand_4 : decode cX6_runCommand 4 = .ok (.iload_n 1, 1) := by decide +kernel
theorem dX6_runCommand_5 : decode cX6_runCommand 5 = .ok (.invokevirtual 228, 3) := by decide +kernel
theorem dX6_runCommand_8 : decode cX6_runCommand 8 = .ok (.istore_n 3, 1) := by decide +kernel
theorem dX6_runCommand_9 : decode cX6_runCommand 9 = .ok (.iload_n 3, 1) := by decide +kernel
theorem dX6_runCommand_10 : decode cX6_runCommand 10 = .ok (.bipush 43, 2) := by decide +kernel
theorem dX6_runCommand_12 : decode cX6_runCommand 12 = .ok (.if_icmp .ne 19, 3) := by decide +kernel
theorem dX6_runCommand_15 : decode cX6_runCommand 15 = .ok (.aload_n 0, 1) := by decide +kernel
theorem dX6_runCommand_16 : decode cX6_runCommand 16 = .ok (.aload_n 0, 1) := by decide +kernel
theorem dX6_runCommand_17 : decode cX6_runCommand 17 = .ok (.getfield 34, 3) := by decide +kernel
theorem dX6_runCommand_20 : decode cX6_runCommand 20 = .ok (.iload_n 1, 1) := by decide +kernel
theorem dX6_runCommand_21 : decode cX6_runCommand 21 = .ok (.iconst 1, 1) := by decide +kernel
theorem dX6_runCommand_22 : decode cX6_runCommand 22 = .ok (.iadd, 1) := by decide +kernel
theorem dX6_runCommand_23 : decode cX6_runCommand 23 = .ok (.iload_n 2, 1) := by decide +kernel
theorem dX6_runCommand_24 : decode cX6_runCommand 24 = .ok (.invokevirtual 205, 3) := by decide +kernel
theorem dX6_runCommand_27 : decode cX6_runCommand 27 = .ok (.invokevirtual 231, 3) := by decide +kernel
theorem dX6_runCommand_30 : decode cX6_runCommand 30 = .ok (.ireturn, 1) := by decide +kernel
theorem dX6_runCommand_31 : decode cX6_runCommand 31 = .ok (.iload_n 3, 1) := by decide +kernel
theorem dX6_runCommand_32 : decode cX6_runCommand 32 = .ok (.bipush 45, 2) := by decide +kernel
theorem dX6_runCommand_34 : decode cX6_runCommand 34 = .ok (.if_icmp .ne 19, 3) := by decide +kernel
theorem dX6_runCommand_37 : decode cX6_runCommand 37 = .ok (.aload_n 0, 1) := by decide +kernel
theorem dX6_runCommand_38 : decode cX6_runCommand 38 = .ok (.aload_n 0, 1) := by decide +kernel
theorem dX6_runCommand_39 : decode cX6_runCommand 39 = .ok (.getfield 34, 3) := by decide +kernel
theorem dX6_runCommand_42 : decode cX6_runCommand 42 = .ok (.iload_n 1, 1) := by decide +kernel
theorem dX6_runCommand_43 : decode cX6_runCommand 43 = .ok (.iconst 1, 1) := by decide +kernel
theorem dX6_runCommand_44 : decode cX6_runCommand 44 = .ok (.iadd, 1) := by decide +kernel
theorem dX6_runCommand_45 : decode cX6_runCommand 45 = .ok (.iload_n 2, 1) := by decide +kernel
theorem dX6_runCommand_46 : decode cX6_runCommand 46 = .ok (.invokevirtual 205, 3) := by decide +kernel
theorem dX6_runCommand_49 : decode cX6_runCommand 49 = .ok (.invokevirtual 234, 3) := by decide +kernel
theorem dX6_runCommand_52 : decode cX6_runCommand 52 = .ok (.ireturn, 1) := by decide +kernel
theorem dX6_runCommand_53 : decode cX6_runCommand 53 = .ok (.aload_n 0, 1) := by decide +kernel
theorem dX6_runCommand_54 : decode cX6_runCommand 54 = .ok (.getfield 34, 3) := by decide +kernel
theorem dX6_runCommand_57 : decode cX6_runCommand 57 = .ok (.bipush 61, 2) := by decide +kernel
theorem dX6_runCommand_59 : decode cX6_runCommand 59 = .ok (.iload_n 1, 1) := by decide +kernel
theorem dX6_runCommand_60 : decode cX6_runCommand 60 = .ok (.iload_n 2, 1) := by decide +kernel
theorem dX6_runCommand_61 : decode cX6_runCommand 61 = .ok (.invokevirtual 237, 3) := by decide +kernel
theorem dX6_runCommand_64 : decode cX6_runCommand 64 = .ok (.istore 4, 2) := by decide +kernel
theorem dX6_runCommand_66 : decode cX6_runCommand 66 = .ok (.aload_n 0, 1) := by decide +kernel
theorem dX6_runCommand_67 : decode cX6_runCommand 67 = .ok (.aload_n 0, 1) := by decide +kernel
theorem dX6_runCommand_68 : decode cX6_runCommand 68 = .ok (.getfield 34, 3) := by decide +kernel
theorem dX6_runCommand_71 : decode cX6_runCommand 71 = .ok (.iload_n 1, 1) := by decide +kernel
theorem dX6_runCommand_72 : decode cX6_runCommand 72 = .ok (.iload 4, 2) := by decide +kernel
theorem dX6_runCommand_74 : decode cX6_runCommand 74 = .ok (.invokevirtual 205, 3) := by decide +kernel
theorem dX6_runCommand_77 : decode cX6_runCommand 77 = .ok (.aload_n 0, 1) := by decide +kernel
theorem dX6_runCommand_78 : decode cX6_runCommand 78 = .ok (.getfield 34, 3) := by decide +kernel
theorem dX6_runCommand_81 : decode cX6_runCommand 81 = .ok (.iload 4, 2) := by decide +kernel
theorem dX6_runCommand_83 : decode cX6_runCommand 83 = .ok (.iconst 1, 1) := by decide +kernel
theorem dX6_runCommand_84 : decode cX6_runCommand 84 = .ok (.iadd, 1) := by decide +kernel
theorem dX6_runCommand_85 : decode cX6_runCommand 85 = .ok (.iload_n 2, 1) := by decide +kernel
theorem dX6_runCommand_86 : decode cX6_runCommand 86 = .ok (.invokevirtual 205, 3) := by decide +kernel
theorem dX6_runCommand_89 : decode cX6_runCommand 89 = .ok (.invokevirtual 241, 3) := by decide +kernel
theorem dX6_runCommand_92 : decode cX6_runCommand 92 = .ok (.ireturn, 1) := by decide +kernel
set_option maxRecDepth 20000 in
theorem ggX6_runAdd_X3_canAdd : GoodIn wsX6_runAdd wsX3_canAdd := goodIn_r _ [6, 7, 8, 9, 10, 11, 12, 13, 14, 15, 16, 5, 17, 18, 19, 20, 21, 22, 23, 76, 77, 78, 79, 80, 81, 82] (by decide +kernel) (by decide +kernel)
set_option maxRecDepth 20000 in
theorem gX6_runAdd_X3_canAdd : GoodIn wsX6_runAdd (wsV RX6 215 RX3 yX3_canAdd wsX3_canAdd) := goodIn_app (goodIn_of _ (by decide +kernel)) ggX6_runAdd_X3_canAdd
set_option maxRecDepth 20000 in
theorem ggX6_runAdd_X3_makeEntry : GoodIn wsX6_runAdd wsX3_makeEntry := goodIn_r _ [27, 18, 7, 28, 29, 30, 31, 32, 33, 34, 35, 36, 37, 38, 39, 40, 41, 11, 42, 13, 43, 23, 44, 45, 46, 47, 48, 49, 50, 51, 52, 53, 54, 55, 56, 57, 58, 59, 60, 61, 62, 63, 64, 65, 66, 67, 68, 69, 70, 76, 77, 78, 79, 80, 81, 82, 83, 84, 85] (by decide +kernel) (by decide +kernel)
set_option maxRecDepth 20000 in
theorem gX6_runAdd_X3_makeEntry : GoodIn wsX6_runAdd (wsV RX6 53 RX3 yX3_makeEntry wsX3_makeEntry) := goodIn_app (goodIn_of _ (by decide +kernel)) ggX6_runAdd_X3_makeEntry
theorem dX6_runAdd_0 : decode cX6_runAdd 0 = .ok (.aload_n 0, 1) := by decide +kernel
theorem dX6_runAdd_1 : decode cX6_runAdd 1 = .ok (.getfield 12, 3) := by decide +kernel
theorem dX6_runAdd_4 : decode cX6_runAdd 4 = .ok (.iload_n 1, 1) := by decide +kernel
theorem dX6_runAdd_5 : decode cX6_runAdd 5 = .ok (.invokevirtual 215, 3) := by decide +kernel
theorem dX6_runAdd_8 : decode cX6_runAdd 8 = .ok (.ifCond .ne 5, 3) := by decide +kernel
theorem dX6_runAdd_11 : decode cX6_runAdd 11 = .ok (.iconst 0, 1) := by decide +kernel
theorem dX6_runAdd_12 : decode cX6_runAdd 12 = .ok (.ireturn, 1) := by decide +kernel
theorem dX6_runAdd_13 : decode cX6_runAdd 13 = .ok (.aload_n 0, 1) := by decide +kernel
theorem dX6_runAdd_14 : decode cX6_runAdd 14 = .ok (.getfield 12, 3) := by decide +kernel
theorem dX6_runAdd_17 : decode cX6_runAdd 17 = .ok (.iload_n 1, 1) := by decide +kernel
theorem dX6_runAdd_18 : decode cX6_runAdd 18 = .ok (.invokevirtual 53, 3) := by decide +kernel
theorem dX6_runAdd_21 : decode cX6_runAdd 21 = .ok (.pop, 1) := by decide +kernel
theorem dX6_runAdd_22 : decode cX6_runAdd 22 = .ok (.iconst 1, 1) := by decide +kernel
theorem dX6_runAdd_23 : decode cX6_runAdd 23 = .ok (.ireturn, 1) := by decide +kernel
set_option maxRecDepth 20000 in
theorem ggX6_runRemove_X0_placeOfName : GoodIn wsX6_runRemove wsX0_placeOfName := goodIn_r _ [7, 8, 9, 65, 66, 67] (by decide +kernel) (by decide +kernel)
set_option maxRecDepth 20000 in
theorem gX6_runRemove_X0_placeOfName : GoodIn wsX6_runRemove (wsV RX6 156 RX0 yX0_placeOfName wsX0_placeOfName) := goodIn_app (goodIn_of _ (by decide +kernel)) ggX6_runRemove_X0_placeOfName
set_option maxRecDepth 20000 in
theorem ggX6_runRemove_X3_dropEntry : GoodIn wsX6_runRemove wsX3_dropEntry := goodIn_r _ [14, 15, 16, 17, 18, 19, 6, 20, 21, 22, 23, 24, 25, 8, 9, 26, 27, 28, 29, 30, 31, 32, 33, 34, 35, 36, 37, 38, 39, 40, 41, 42, 43, 44, 45, 46, 47, 48, 49, 50, 51, 52, 53, 54, 55, 61, 62, 63, 64, 65, 66, 67, 68, 69, 70] (by decide +kernel) (by decide +kernel)
set_option maxRecDepth 20000 in
theorem gX6_runRemove_X3_dropEntry : GoodIn wsX6_runRemove (wsV RX6 60 RX3 yX3_dropEntry wsX3_dropEntry) := goodIn_app (goodIn_of _ (by decide +kernel)) ggX6_runRemove_X3_dropEntry
theorem dX6_runRemove_0 : decode cX6_runRemove 0 = .ok (.aload_n 0, 1) := by decide +kernel
theorem dX6_runRemove_1 : decode cX6_runRemove 1 = .ok (.getfield 12, 3) := by decide +kernel
theorem dX6_runRemove_4 : decode cX6_runRemove 4 = .ok (.getfield 63, 3) := by decide +kernel
theorem dX6_runRemove_7 : decode cX6_runRemove 7 = .ok (.iload_n 1, 1) := by decide +kernel
theorem dX6_runRemove_8 : decode cX6_runRemove 8 = .ok (.invokevirtual 156, 3) := by decide +kernel
theorem dX6_runRemove_11 : decode cX6_runRemove 11 = .ok (.istore_n 2, 1) := by decide +kernel
theorem dX6_runRemove_12 : decode cX6_runRemove 12 = .ok (.iload_n 2, 1) := by decide +kernel
theorem dX6_runRemove_13 : decode cX6_runRemove 13 = .ok (.iconst (-1), 1) := by decide +kernel
theorem dX6_runRemove_14 : decode cX6_runRemove 14 = .ok (.if_icmp .ne 5, 3) := by decide +kernel
theorem dX6_runRemove_17 : decode cX6_runRemove 17 = .ok (.iconst 0, 1) := by decide +kernel
theorem dX6_runRemove_18 : decode cX6_runRemove 18 = .ok (.ireturn, 1) := by decide +kernel
theorem dX6_runRemove_19 : decode cX6_runRemove 19 = .ok (.aload_n 0, 1) := by decide +kernel
theorem dX6_runRemove_20 : decode cX6_runRemove 20 = .ok (.getfield 12, 3) := by decide +kernel
theorem dX6_runRemove_23 : decode cX6_runRemove 23 = .ok (.iload_n 2, 1) := by decide +kernel
theorem dX6_runRemove_24 : decode cX6_runRemove 24 = .ok (.invokevirtual 60, 3) := by decide +kernel
theorem dX6_runRemove_27 : decode cX6_runRemove 27 = .ok (.iconst 1, 1) := by decide +kernel
theorem dX6_runRemove_28 : decode cX6_runRemove 28 = .ok (.ireturn, 1) := by decide +kernel
set_option maxRecDepth 20000 in
theorem ggX6_runRename_X0_placeOfName : GoodIn wsX6_runRename wsX0_placeOfName := goodIn_r _ [7, 8, 9, 94, 95, 96] (by decide +kernel) (by decide +kernel)
set_option maxRecDepth 20000 in
theorem gX6_runRename_X0_placeOfName : GoodIn wsX6_runRename (wsV RX6 156 RX0 yX0_placeOfName wsX0_placeOfName) := goodIn_app (goodIn_of _ (by decide +kernel)) ggX6_runRename_X0_placeOfName
set_option maxRecDepth 20000 in
theorem ggX6_runRename_X3_canRenameTo : GoodIn wsX6_runRename wsX3_canRenameTo := goodIn_r _ [14, 15, 16, 17, 4, 5, 6, 7, 8, 9, 90, 91, 92, 93, 94, 95, 96] (by decide +kernel) (by decide +kernel)
set_option maxRecDepth 20000 in
theorem gX6_runRename_X3_canRenameTo : GoodIn wsX6_runRename (wsV RX6 73 RX3 yX3_canRenameTo wsX3_canRenameTo) := goodIn_app (goodIn_of _ (by decide +kernel)) ggX6_runRename_X3_canRenameTo
set_option maxRecDepth 20000 in
theorem ggX6_runRename_X3_dropEntry : GoodIn wsX6_runRename wsX3_dropEntry := goodIn_r _ [21, 16, 22, 23, 24, 25, 6, 26, 27, 28, 29, 30, 31, 8, 9, 32, 33, 34, 35, 36, 37, 38, 39, 40, 41, 42, 43, 44, 45, 46, 47, 48, 49, 50, 51, 52, 53, 54, 55, 56, 57, 58, 59, 60, 61, 90, 91, 92, 93, 94, 95, 96, 97, 98, 99] (by decide +kernel) (by decide +kernel)
set_option maxRecDepth 20000 in
theorem gX6_runRename_X3_dropEntry : GoodIn wsX6_runRename (wsV RX6 60 RX3 yX3_dropEntry wsX3_dropEntry) := goodIn_app (goodIn_of _ (by decide +kernel)) ggX6_runRename_X3_dropEntry
set_option maxRecDepth 20000 in
theorem ggX6_runRename_X3_makeEntry : GoodIn wsX6_runRename wsX3_makeEntry := goodIn_r _ [65, 15, 16, 22, 66, 67, 68, 69, 70, 71, 72, 73, 74, 75, 76, 77, 78, 6, 79, 8, 27, 9, 52, 53, 54, 55, 80, 81, 82, 35, 83, 37, 84, 42, 43, 44, 45, 46, 47, 48, 49, 50, 51, 56, 57, 58, 59, 60, 61, 90, 91, 92, 93, 94, 95, 96, 97, 98, 99] (by decide +kernel) (by decide +kernel)
set_option maxRecDepth 20000 in
theorem gX6_runRename_X3_makeEntry : GoodIn wsX6_runRename (wsV RX6 53 RX3 yX3_makeEntry wsX3_makeEntry) := goodIn_app (goodIn_of _ (by decide +kernel)) ggX6_runRename_X3_makeEntry
theorem dX6_runRename_0 : decode cX6_runRename 0 = .ok (.aload_n 0, 1) := by decide +kernel
theorem dX6_runRename_1 : decode cX6_runRename 1 = .ok (.getfield 12, 3) := by decide +kernel
theorem dX6_runRename_4 : decode cX6_runRename 4 = .ok (.getfield 63, 3) := by decide +kernel
theorem dX6_runRename_7 : decode cX6_runRename 7 = .ok (.iload_n 1, 1) := by decide +kernel
theorem dX6_runRename_8 : decode cX6_runRename 8 = .ok (.invokevirtual 156, 3) := by decide +kernel
theorem dX6_runRename_11 : decode cX6_runRename 11 = .ok (.istore_n 3, 1) := by decide +kernel
theorem dX6_runRename_12 : decode cX6_runRename 12 = .ok (.iload_n 3, 1) := by decide +kernel
theorem dX6_runRename_13 : decode cX6_runRename 13 = .ok (.iconst (-1), 1) := by decide +kernel
theorem dX6_runRename_14 : decode cX6_runRename 14 = .ok (.if_icmp .eq 14, 3) := by decide +kernel
theorem dX6_runRename_17 : decode cX6_runRename 17 = .ok (.aload_n 0, 1) := by decide +kernel
theorem dX6_runRename_18 : decode cX6_runRename 18 = .ok (.getfield 12, 3) := by decide +kernel
theorem dX6_runRename_21 : decode cX6_runRename 21 = .ok (.iload_n 2, 1) := by decide +kernel
theorem dX6_runRename_22 : decode cX6_runRename 22 = .ok (.invokevirtual 73, 3) := by decide +kernel
theorem dX6_runRename_25 : decode cX6_runRename 25 = .ok (.ifCond .ne 5, 3) := by decide +kernel
theorem dX6_runRename_28 : decode cX6_runRename 28 = .ok (.iconst 0, 1) := by decide +kernel
theorem dX6_runRename_29 : decode cX6_runRename 29 = .ok (.ireturn, 1) := by decide +kernel
theorem dX6_runRename_30 : decode cX6_runRename 30 = .ok (.aload_n 0, 1) := by decide +kernel
theorem dX6_runRename_31 : decode cX6_runRename 31 = .ok (.getfield 12, 3) := by decide +kernel
theorem dX6_runRename_34 : decode cX6_runRename 34 = .ok (.iload_n 3, 1) := by decide +kernel
theorem dX6_runRename_35 : decode cX6_runRename 35 = .ok (.invokevirtual 60, 3) := by decide +kernel
theorem dX6_runRename_38 : decode cX6_runRename 38 = .ok (.aload_n 0, 1) := by decide +kernel
theorem dX6_runRename_39 : decode cX6_runRename 39 = .ok (.getfield 12, 3) := by decide +kernel
theorem dX6_runRename_42 : decode cX6_runRename 42 = .ok (.iload_n 2, 1) := by decide +kernel
theorem dX6_runRename_43 : decode cX6_runRename 43 = .ok (.invokevirtual 53, 3) := by decide +kernel
theorem dX6_runRename_46 : decode cX6_runRename 46 = .ok (.pop, 1) := by decide +kernel
theorem dX6_runRename_47 : decode cX6_runRename 47 = .ok (.iconst 1, 1) := by decide +kernel
theorem dX6_runRename_48 : decode cX6_runRename 48 = .ok (.ireturn, 1) := by decide +kernel
theorem dX7_init_0 : decode cX7_init 0 = .ok (.aload_n 0, 1) := by decide +kernel
theorem dX7_init_1 : decode cX7_init 1 = .ok (.invokespecial 1, 3) := by decide +kernel
theorem dX7_init_4 : decode cX7_init 4 = .ok (.aload_n 0, 1) := by decide +kernel
theorem dX7_init_5 : decode cX7_init 5 = .ok (.sipush 3888, 3) := by decide +kernel
theorem dX7_init_8 : decode cX7_init 8 = .ok (.newarray .int, 2) := by decide +kernel
theorem dX7_init_10 : decode cX7_init 10 = .ok (.putfield 7, 3) := by decide +kernel
theorem dX7_init_13 : decode cX7_init 13 = .ok (.aload_n 0, 1) := by decide +kernel
theorem dX7_init_14 : decode cX7_init 14 = .ok (.iconst 2, 1) := by decide +kernel
theorem dX7_init_15 : decode cX7_init 15 = .ok (.newarray .boolean, 2) := by decide +kernel
theorem dX7_init_17 : decode cX7_init 17 = .ok (.putfield 13, 3) := by decide +kernel
theorem dX7_init_20 : decode cX7_init 20 = .ok (.aload_n 0, 1) := by decide +kernel
theorem dX7_init_21 : decode cX7_init 21 = .ok (.bipush 80, 2) := by decide +kernel
theorem dX7_init_23 : decode cX7_init 23 = .ok (.newarray .int, 2) := by decide +kernel
theorem dX7_init_25 : decode cX7_init 25 = .ok (.putfield 17, 3) := by decide +kernel
theorem dX7_init_28 : decode cX7_init 28 = .ok (.iconst 0, 1) := by decide +kernel
theorem dX7_init_29 : decode cX7_init 29 = .ok (.istore_n 1, 1) := by decide +kernel
theorem dX7_init_30 : decode cX7_init 30 = .ok (.iload_n 1, 1) := by decide +kernel
theorem dX7_init_31 : decode cX7_init 31 = .ok (.iconst 4, 1) := by decide +kernel
theorem dX7_init_32 : decode cX7_init 32 = .ok (.if_icmp .ge 19, 3) := by decide +kernel
theorem dX7_init_35 : decode cX7_init 35 = .ok (.aload_n 0, 1) := by decide +kernel
theorem dX7_init_36 : decode cX7_init 36 = .ok (.getfield 7, 3) := by decide +kernel
theorem dX7_init_39 : decode cX7_init 39 = .ok (.iconst 4, 1) := by decide +kernel
theorem dX7_init_40 : decode cX7_init 40 = .ok (.iload_n 1, 1) := by decide +kernel
theorem dX7_init_41 : decode cX7_init 41 = .ok (.iadd, 1) := by decide +kernel
theorem dX7_init_42 : decode cX7_init 42 = .ok (.bipush (-2), 2) := by decide +kernel
theorem dX7_init_44 : decode cX7_init 44 = .ok (.iastore, 1) := by decide +kernel
theorem dX7_init_45 : decode cX7_init 45 = .ok (.iinc 1 1, 3) := by decide +kernel
theorem dX7_init_48 : decode cX7_init 48 = .ok (.goto (-18), 3) := by decide +kernel
theorem dX7_init_51 : decode cX7_init 51 = .ok (.return_, 1) := by decide +kernel
theorem dX7_thrown_0 : decode cX7_thrown 0 = .ok (.aload_n 0, 1) := by decide +kernel
theorem dX7_thrown_1 : decode cX7_thrown 1 = .ok (.getfield 20, 3) := by decide +kernel
theorem dX7_thrown_4 : decode cX7_thrown 4 = .ok (.ireturn, 1) := by decide +kernel
theorem dX7_in_0 : decode cX7_in 0 = .ok (.iload_n 0, 1) := by decide +kernel
theorem dX7_in_1 : decode cX7_in 1 = .ok (.iload_n 1, 1) := by decide +kernel
theorem dX7_in_2 : decode cX7_in 2 = .ok (.if_icmp .lt 12, 3) := by decide +kernel
theorem dX7_in_5 : decode cX7_in 5 = .ok (.iload_n 0, 1) := by decide +kernel
theorem dX7_in_6 : decode cX7_in 6 = .ok (.iload_n 2, 1) := by decide +kernel
theorem dX7_in_7 : decode cX7_in 7 = .ok (.if_icmp .gt 7, 3) := by decide +kernel
theorem dX7_in_10 : decode cX7_in 10 = .ok (.iconst 1, 1) := by decide +kernel
theorem dX7_in_11 : decode cX7_in 11 = .ok (.goto 4, 3) := by decide +kernel
theorem dX7_in_14 : decode cX7_in 14 = .ok (.iconst 0, 1) := by decide +kernel
theorem dX7_in_15 : decode cX7_in 15 = .ok (.ireturn, 1) := by decide +kernel
theorem dX7_holds_0 : decode cX7_holds 0 = .ok (.aload_n 0, 1) := by decide +kernel
theorem dX7_holds_1 : decode cX7_holds 1 = .ok (.iload_n 1, 1) := by decide +kernel
theorem dX7_holds_2 : decode cX7_holds 2 = .ok (.putfield 20, 3) := by decide +kernel
theorem dX7_holds_5 : decode cX7_holds 5 = .ok (.iload_n 1, 1) := by decide +kernel
theorem dX7_holds_6 : decode cX7_holds 6 = .ok (.ifCond .ne 7, 3) := by decide +kernel
theorem dX7_holds_9 : decode cX7_holds 9 = .ok (.iconst 1, 1) := by decide +kernel
theorem dX7_holds_10 : decode cX7_holds 10 = .ok (.goto 4, 3) := by decide +kernel
theorem dX7_holds_13 : decode cX7_holds 13 = .ok (.iconst 0, 1) := by decide +kernel
theorem dX7_holds_14 : decode cX7_holds 14 = .ok (.ireturn, 1) := by decide +kernel
theorem dX7_of_0 : decode cX7_of 0 = .ok (.aload_n 0, 1) := by decide +kernel
theorem dX7_of_1 : decode cX7_of 1 = .ok (.getfield 7, 3) := by decide +kernel
theorem dX7_of_4 : decode cX7_of 4 = .ok (.bipush 72, 2) := by decide +kernel
theorem dX7_of_6 : decode cX7_of 6 = .ok (.bipush 9, 2) := by decide +kernel
theorem dX7_of_8 : decode cX7_of 8 = .ok (.iload_n 1, 1) := by decide +kernel
theorem dX7_of_9 : decode cX7_of 9 = .ok (.imul, 1) := by decide +kernel
theorem dX7_of_10 : decode cX7_of 10 = .ok (.iadd, 1) := by decide +kernel
theorem dX7_of_11 : decode cX7_of 11 = .ok (.iload_n 2, 1) := by decide +kernel
theorem dX7_of_12 : decode cX7_of 12 = .ok (.iadd, 1) := by decide +kernel
theorem dX7_of_13 : decode cX7_of 13 = .ok (.iaload, 1) := by decide +kernel
theorem dX7_of_14 : decode cX7_of 14 = .ok (.ireturn, 1) := by decide +kernel
set_option maxRecDepth 20000 in
theorem ggX7_keyAt_X7_of : GoodIn wsX7_keyAt wsX7_of := goodIn_r _ [5, 6, 7, 8, 9, 10, 11, 12, 13, 14, 15, 16, 17, 18] (by decide +kernel) (by decide +kernel)
set_option maxRecDepth 20000 in
theorem gX7_keyAt_X7_of : GoodIn wsX7_keyAt (wsV RX7 24 RX7 yX7_of wsX7_of) := goodIn_app (goodIn_of _ (by decide +kernel)) ggX7_keyAt_X7_of
theorem dX7_keyAt_0 : decode cX7_keyAt 0 = .ok (.sipush 1000, 3) := by decide +kernel
theorem dX7_keyAt_3 : decode cX7_keyAt 3 = .ok (.aload_n 0, 1) := by decide +kernel
theorem dX7_keyAt_4 : decode cX7_keyAt 4 = .ok (.iload_n 1, 1) := by decide +kernel
theorem dX7_keyAt_5 : decode cX7_keyAt 5 = .ok (.iconst 1, 1) := by decide +kernel
theorem dX7_keyAt_6 : decode cX7_keyAt 6 = .ok (.invokevirtual 24, 3) := by decide +kernel
theorem dX7_keyAt_9 : decode cX7_keyAt 9 = .ok (.imul, 1) := by decide +kernel
theorem dX7_keyAt_10 : decode cX7_keyAt 10 = .ok (.aload_n 0, 1) := by decide +kernel
theorem dX7_keyAt_11 : decode cX7_keyAt 11 = .ok (.iload_n 1, 1) := by decide +kernel
theorem dX7_keyAt_12 : decode cX7_keyAt 12 = .ok (.iconst 0, 1) := by decide +kernel
theorem dX7_keyAt_13 : decode cX7_keyAt 13 = .ok (.invokevirtual 24, 3) := by decide +kernel
theorem dX7_keyAt_16 : decode cX7_keyAt 16 = .ok (.iadd, 1) := by decide +kernel
theorem dX7_keyAt_17 : decode cX7_keyAt 17 = .ok (.ireturn, 1) := by decide +kernel
set_option maxRecDepth 20000 in
theorem ggX7_placeOf_X7_of : GoodIn wsX7_placeOf wsX7_of := goodIn_r _ [6, 1, 7, 8, 9, 10, 11, 12, 13, 14, 15, 16, 17, 18] (by decide +kernel) (by decide +kernel)
set_option maxRecDepth 20000 in
theorem gX7_placeOf_X7_of : GoodIn wsX7_placeOf (wsV RX7 24 RX7 yX7_of wsX7_of) := goodIn_app (goodIn_of _ (by decide +kernel)) ggX7_placeOf_X7_of
theorem dX7_placeOf_0 : decode cX7_placeOf 0 = .ok (.iconst 0, 1) := by decide +kernel
theorem dX7_placeOf_1 : decode cX7_placeOf 1 = .ok (.istore_n 2, 1) := by decide +kernel
theorem dX7_placeOf_2 : decode cX7_placeOf 2 = .ok (.iload_n 2, 1) := by decide +kernel
theorem dX7_placeOf_3 : decode cX7_placeOf 3 = .ok (.aload_n 0, 1) := by decide +kernel
theorem dX7_placeOf_4 : decode cX7_placeOf 4 = .ok (.getfield 7, 3) := by decide +kernel
theorem dX7_placeOf_7 : decode cX7_placeOf 7 = .ok (.iconst 0, 1) := by decide +kernel
theorem dX7_placeOf_8 : decode cX7_placeOf 8 = .ok (.iaload, 1) := by decide +kernel
theorem dX7_placeOf_9 : decode cX7_placeOf 9 = .ok (.if_icmp .ge 21, 3) := by decide +kernel
theorem dX7_placeOf_12 : decode cX7_placeOf 12 = .ok (.aload_n 0, 1) := by decide +kernel
theorem dX7_placeOf_13 : decode cX7_placeOf 13 = .ok (.iload_n 2, 1) := by decide +kernel
theorem dX7_placeOf_14 : decode cX7_placeOf 14 = .ok (.iconst 0, 1) := by decide +kernel
theorem dX7_placeOf_15 : decode cX7_placeOf 15 = .ok (.invokevirtual 24, 3) := by decide +kernel
theorem dX7_placeOf_18 : decode cX7_placeOf 18 = .ok (.iload_n 1, 1) := by decide +kernel
theorem dX7_placeOf_19 : decode cX7_placeOf 19 = .ok (.if_icmp .ne 5, 3) := by decide +kernel
theorem dX7_placeOf_22 : decode cX7_placeOf 22 = .ok (.iload_n 2, 1) := by decide +kernel
theorem dX7_placeOf_23 : decode cX7_placeOf 23 = .ok (.ireturn, 1) := by decide +kernel
theorem dX7_placeOf_24 : decode cX7_placeOf 24 = .ok (.iinc 2 1, 3) := by decide +kernel
theorem dX7_placeOf_27 : decode cX7_placeOf 27 = .ok (.goto (-25), 3) := by decide +kernel
theorem dX7_placeOf_30 : decode cX7_placeOf 30 = .ok (.bipush (-2), 2) := by decide +kernel
theorem dX7_placeOf_32 : decode cX7_placeOf 32 = .ok (.ireturn, 1) := by decide +kernel
set_option maxRecDepth 20000 in
theorem ggX7_placeOfName_X7_of : GoodIn wsX7_placeOfName wsX7_of := goodIn_r _ [7, 1, 8, 9, 10, 11, 12, 13, 14, 15, 16, 17, 18, 19] (by decide +kernel) (by decide +kernel)
set_option maxRecDepth 20000 in
theorem gX7_placeOfName_X7_of : GoodIn wsX7_placeOfName (wsV RX7 24 RX7 yX7_of wsX7_of) := goodIn_app (goodIn_of _ (by decide +kernel)) ggX7_placeOfName_X7_of
theorem dX7_placeOfName_0 : decode cX7_placeOfName 0 = .ok (.iconst 0, 1) := by decide +kernel
theorem dX7_placeOfName_1 : decode cX7_placeOfName 1 = .ok (.istore_n 3, 1) := by decide +kernel
theorem dX7_placeOfName_2 : decode cX7_placeOfName 2 = .ok (.iload_n 3, 1) := by decide +kernel
theorem dX7_placeOfName_3 : decode cX7_placeOfName 3 = .ok (.aload_n 0, 1) := by decide +kernel
theorem dX7_placeOfName_4 : decode cX7_placeOfName 4 = .ok (.getfield 7, 3) := by decide +kernel
theorem dX7_placeOfName_7 : decode cX7_placeOfName 7 = .ok (.iconst 0, 1) := by decide +kernel
theorem dX7_placeOfName_8 : decode cX7_placeOfName 8 = .ok (.iaload, 1) := by decide +kernel
theorem dX7_placeOfName_9 : decode cX7_placeOfName 9 = .ok (.if_icmp .ge 81, 3) := by decide +kernel
theorem dX7_placeOfName_12 : decode cX7_placeOfName 12 = .ok (.aload_n 0, 1) := by decide +kernel
theorem dX7_placeOfName_13 : decode cX7_placeOfName 13 = .ok (.iload_n 3, 1) := by decide +kernel
theorem dX7_placeOfName_14 : decode cX7_placeOfName 14 = .ok (.iconst 2, 1) := by decide +kernel
theorem dX7_placeOfName_15 : decode cX7_placeOfName 15 = .ok (.invokevirtual 24, 3) := by decide +kernel
theorem dX7_placeOfName_18 : decode cX7_placeOfName 18 = .ok (.iload_n 2, 1) := by decide +kernel
theorem dX7_placeOfName_19 : decode cX7_placeOfName 19 = .ok (.if_icmp .ne 7, 3) := by decide +kernel
theorem dX7_placeOfName_22 : decode cX7_placeOfName 22 = .ok (.iconst 1, 1) := by decide +kernel
theorem dX7_placeOfName_23 : decode cX7_placeOfName 23 = .ok (.goto 4, 3) := by decide +kernel
theorem dX7_placeOfName_26 : decode cX7_placeOfName 26 = .ok (.iconst 0, 1) := by decide +kernel
theorem dX7_placeOfName_27 : decode cX7_placeOfName 27 = .ok (.istore 4, 2) := by decide +kernel
theorem dX7_placeOfName_29 : decode cX7_placeOfName 29 = .ok (.iconst 0, 1) := by decide +kernel
theorem dX7_placeOfName_30 : decode cX7_placeOfName 30 = .ok (.istore 5, 2) := by decide +kernel
theorem dX7_placeOfName_32 : decode cX7_placeOfName 32 = .ok (.iload 5, 2) := by decide +kernel
theorem dX7_placeOfName_34 : decode cX7_placeOfName 34 = .ok (.iload_n 2, 1) := by decide +kernel
theorem dX7_placeOfName_35 : decode cX7_placeOfName 35 = .ok (.if_icmp .ge 42, 3) := by decide +kernel
theorem dX7_placeOfName_38 : decode cX7_placeOfName 38 = .ok (.iload 4, 2) := by decide +kernel
theorem dX7_placeOfName_40 : decode cX7_placeOfName 40 = .ok (.ifCond .eq 37, 3) := by decide +kernel
theorem dX7_placeOfName_43 : decode cX7_placeOfName 43 = .ok (.aload_n 0, 1) := by decide +kernel
theorem dX7_placeOfName_44 : decode cX7_placeOfName 44 = .ok (.iload_n 3, 1) := by decide +kernel
theorem dX7_placeOfName_45 : decode cX7_placeOfName 45 = .ok (.iconst 3, 1) := by decide +kernel
theorem dX7_placeOfName_46 : decode cX7_placeOfName 46 = .ok (.iload 5, 2) := by decide +kernel
theorem dX7_placeOfName_48 : decode cX7_placeOfName 48 = .ok (.iadd, 1) := by decide +kernel
theorem dX7_placeOfName_49 : decode cX7_placeOfName 49 = .ok (.invokevirtual 24, 3) := by decide +kernel
theorem dX7_placeOfName_52 : decode cX7_placeOfName 52 = .ok (.aload_n 0, 1) := by decide +kernel
theorem dX7_placeOfName_53 : decode cX7_placeOfName 53 = .ok (.getfield 17, 3) := by decide +kernel
theorem dX7_placeOfName_56 : decode cX7_placeOfName 56 = .ok (.iload_n 1, 1) := by decide +kernel
theorem dX7_placeOfName_57 : decode cX7_placeOfName 57 = .ok (.iload 5, 2) := by decide +kernel
theorem dX7_placeOfName_59 : decode cX7_placeOfName 59 = .ok (.iadd, 1) := by decide +kernel
theorem dX7_placeOfName_60 : decode cX7_placeOfName 60 = .ok (.iaload, 1) := by decide +kernel
theorem dX7_placeOfName_61 : decode cX7_placeOfName 61 = .ok (.if_icmp .ne 7, 3) := by decide +kernel
theorem dX7_placeOfName_64 : decode cX7_placeOfName 64 = .ok (.iconst 1, 1) := by decide +kernel
theorem dX7_placeOfName_65 : decode cX7_placeOfName 65 = .ok (.goto 4, 3) := by decide +kernel
theorem dX7_placeOfName_68 : decode cX7_placeOfName 68 = .ok (.iconst 0, 1) := by decide +kernel
theorem dX7_placeOfName_69 : decode cX7_placeOfName 69 = .ok (.istore 4, 2) := by decide +kernel
theorem dX7_placeOfName_71 : decode cX7_placeOfName 71 = .ok (.iinc 5 1, 3) := by decide +kernel
theorem dX7_placeOfName_74 : decode cX7_placeOfName 74 = .ok (.goto (-42), 3) := by decide +kernel
theorem dX7_placeOfName_77 : decode cX7_placeOfName 77 = .ok (.iload 4, 2) := by decide +kernel
theorem dX7_placeOfName_79 : decode cX7_placeOfName 79 = .ok (.ifCond .eq 5, 3) := by decide +kernel
theorem dX7_placeOfName_82 : decode cX7_placeOfName 82 = .ok (.iload_n 3, 1) := by decide +kernel
theorem dX7_placeOfName_83 : decode cX7_placeOfName 83 = .ok (.ireturn, 1) := by decide +kernel
theorem dX7_placeOfName_84 : decode cX7_placeOfName 84 = .ok (.iinc 3 1, 3) := by decide +kernel
theorem dX7_placeOfName_87 : decode cX7_placeOfName 87 = .ok (.goto (-85), 3) := by decide +kernel
theorem dX7_placeOfName_90 : decode cX7_placeOfName 90 = .ok (.bipush (-2), 2) := by decide +kernel
theorem dX7_placeOfName_92 : decode cX7_placeOfName 92 = .ok (.ireturn, 1) := by decide +kernel
theorem dX7_hashOfName_0 : decode cX7_hashOfName 0 = .ok (.bipush 7, 2) := by decide +kernel
theorem dX7_hashOfName_2 : decode cX7_hashOfName 2 = .ok (.istore_n 3, 1) := by decide +kernel
theorem dX7_hashOfName_3 : decode cX7_hashOfName 3 = .ok (.iconst 0, 1) := by decide +kernel
theorem dX7_hashOfName_4 : decode cX7_hashOfName 4 = .ok (.istore 4, 2) := by decide +kernel
theorem dX7_hashOfName_6 : decode cX7_hashOfName 6 = .ok (.iload 4, 2) := by decide +kernel
theorem dX7_hashOfName_8 : decode cX7_hashOfName 8 = .ok (.iload_n 2, 1) := by decide +kernel
theorem dX7_hashOfName_9 : decode cX7_hashOfName 9 = .ok (.if_icmp .ge 31, 3) := by decide +kernel
theorem dX7_hashOfName_12 : decode cX7_hashOfName 12 = .ok (.iconst 5, 1) := by decide +kernel
theorem dX7_hashOfName_13 : decode cX7_hashOfName 13 = .ok (.iload_n 3, 1) := by decide +kernel
theorem dX7_hashOfName_14 : decode cX7_hashOfName 14 = .ok (.imul, 1) := by decide +kernel
theorem dX7_hashOfName_15 : decode cX7_hashOfName 15 = .ok (.aload_n 0, 1) := by decide +kernel
theorem dX7_hashOfName_16 : decode cX7_hashOfName 16 = .ok (.getfield 17, 3) := by decide +kernel
theorem dX7_hashOfName_19 : decode cX7_hashOfName 19 = .ok (.iload_n 1, 1) := by decide +kernel
theorem dX7_hashOfName_20 : decode cX7_hashOfName 20 = .ok (.iload 4, 2) := by decide +kernel
theorem dX7_hashOfName_22 : decode cX7_hashOfName 22 = .ok (.iadd, 1) := by decide +kernel
theorem dX7_hashOfName_23 : decode cX7_hashOfName 23 = .ok (.iaload, 1) := by decide +kernel
theorem dX7_hashOfName_24 : decode cX7_hashOfName 24 = .ok (.iadd, 1) := by decide +kernel
theorem dX7_hashOfName_25 : decode cX7_hashOfName 25 = .ok (.bipush 97, 2) := by decide +kernel
theorem dX7_hashOfName_27 : decode cX7_hashOfName 27 = .ok (.isub, 1) := by decide +kernel
theorem dX7_hashOfName_28 : decode cX7_hashOfName 28 = .ok (.iconst 1, 1) := by decide +kernel
theorem dX7_hashOfName_29 : decode cX7_hashOfName 29 = .ok (.iadd, 1) := by decide +kernel
theorem dX7_hashOfName_30 : decode cX7_hashOfName 30 = .ok (.bipush 64, 2) := by decide +kernel
theorem dX7_hashOfName_32 : decode cX7_hashOfName 32 = .ok (.irem, 1) := by decide +kernel
theorem dX7_hashOfName_33 : decode cX7_hashOfName 33 = .ok (.istore_n 3, 1) := by decide +kernel
theorem dX7_hashOfName_34 : decode cX7_hashOfName 34 = .ok (.iinc 4 1, 3) := by decide +kernel
theorem dX7_hashOfName_37 : decode cX7_hashOfName 37 = .ok (.goto (-31), 3) := by decide +kernel
theorem dX7_hashOfName_40 : decode cX7_hashOfName 40 = .ok (.iload_n 3, 1) := by decide +kernel
theorem dX7_hashOfName_41 : decode cX7_hashOfName 41 = .ok (.ireturn, 1) := by decide +kernel
theorem dX7_depthAt_0 : decode cX7_depthAt 0 = .ok (.iconst 1, 1) := by decide +kernel
theorem dX7_depthAt_1 : decode cX7_depthAt 1 = .ok (.istore_n 2, 1) := by decide +kernel
theorem dX7_depthAt_2 : decode cX7_depthAt 2 = .ok (.iconst 0, 1) := by decide +kernel
theorem dX7_depthAt_3 : decode cX7_depthAt 3 = .ok (.istore_n 3, 1) := by decide +kernel
theorem dX7_depthAt_4 : decode cX7_depthAt 4 = .ok (.iload_n 3, 1) := by decide +kernel
theorem dX7_depthAt_5 : decode cX7_depthAt 5 = .ok (.bipush 6, 2) := by decide +kernel
theorem dX7_depthAt_7 : decode cX7_depthAt 7 = .ok (.if_icmp .ge 33, 3) := by decide +kernel
theorem dX7_depthAt_10 : decode cX7_depthAt 10 = .ok (.aload_n 0, 1) := by decide +kernel
theorem dX7_depthAt_11 : decode cX7_depthAt 11 = .ok (.getfield 7, 3) := by decide +kernel
theorem dX7_depthAt_14 : decode cX7_depthAt 14 = .ok (.bipush 8, 2) := by decide +kernel
theorem dX7_depthAt_16 : decode cX7_depthAt 16 = .ok (.iload_n 2, 1) := by decide +kernel
theorem dX7_depthAt_17 : decode cX7_depthAt 17 = .ok (.iadd, 1) := by decide +kernel
theorem dX7_depthAt_18 : decode cX7_depthAt 18 = .ok (.iaload, 1) := by decide +kernel
theorem dX7_depthAt_19 : decode cX7_depthAt 19 = .ok (.iconst 1, 1) := by decide +kernel
theorem dX7_depthAt_20 : decode cX7_depthAt 20 = .ok (.if_icmp .ne 20, 3) := by decide +kernel
theorem dX7_depthAt_23 : decode cX7_depthAt 23 = .ok (.iinc 3 1, 3) := by decide +kernel
theorem dX7_depthAt_26 : decode cX7_depthAt 26 = .ok (.iconst 1, 1) := by decide +kernel
theorem dX7_depthAt_27 : decode cX7_depthAt 27 = .ok (.iload_n 3, 1) := by decide +kernel
theorem dX7_depthAt_28 : decode cX7_depthAt 28 = .ok (.ishl, 1) := by decide +kernel
theorem dX7_depthAt_29 : decode cX7_depthAt 29 = .ok (.iload_n 1, 1) := by decide +kernel
theorem dX7_depthAt_30 : decode cX7_depthAt 30 = .ok (.bipush 6, 2) := by decide +kernel
theorem dX7_depthAt_32 : decode cX7_depthAt 32 = .ok (.iload_n 3, 1) := by decide +kernel
theorem dX7_depthAt_33 : decode cX7_depthAt 33 = .ok (.isub, 1) := by decide +kernel
theorem dX7_depthAt_34 : decode cX7_depthAt 34 = .ok (.ishr, 1) := by decide +kernel
theorem dX7_depthAt_35 : decode cX7_depthAt 35 = .ok (.iadd, 1) := by decide +kernel
theorem dX7_depthAt_36 : decode cX7_depthAt 36 = .ok (.istore_n 2, 1) := by decide +kernel
theorem dX7_depthAt_37 : decode cX7_depthAt 37 = .ok (.goto (-33), 3) := by decide +kernel
theorem dX7_depthAt_40 : decode cX7_depthAt 40 = .ok (.iload_n 3, 1) := by decide +kernel
theorem dX7_depthAt_41 : decode cX7_depthAt 41 = .ok (.ireturn, 1) := by decide +kernel
set_option maxRecDepth 20000 in
theorem ggX7_beginning_X7_of : GoodIn wsX7_beginning wsX7_of := goodIn_r _ [6, 1, 7, 8, 9, 10, 11, 12, 13, 14, 15, 16, 17, 18] (by decide +kernel) (by decide +kernel)
set_option maxRecDepth 20000 in
theorem gX7_beginning_X7_of : GoodIn wsX7_beginning (wsV RX7 24 RX7 yX7_of wsX7_of) := goodIn_app (goodIn_of _ (by decide +kernel)) ggX7_beginning_X7_of
theorem dX7_beginning_0 : decode cX7_beginning 0 = .ok (.iconst 0, 1) := by decide +kernel
theorem dX7_beginning_1 : decode cX7_beginning 1 = .ok (.istore_n 3, 1) := by decide +kernel
theorem dX7_beginning_2 : decode cX7_beginning 2 = .ok (.iconst 0, 1) := by decide +kernel
theorem dX7_beginning_3 : decode cX7_beginning 3 = .ok (.istore 4, 2) := by decide +kernel
theorem dX7_beginning_5 : decode cX7_beginning 5 = .ok (.iload 4, 2) := by decide +kernel
theorem dX7_beginning_7 : decode cX7_beginning 7 = .ok (.aload_n 0, 1) := by decide +kernel
theorem dX7_beginning_8 : decode cX7_beginning 8 = .ok (.getfield 7, 3) := by decide +kernel
theorem dX7_beginning_11 : decode cX7_beginning 11 = .ok (.iconst 0, 1) := by decide +kernel
theorem dX7_beginning_12 : decode cX7_beginning 12 = .ok (.iaload, 1) := by decide +kernel
theorem dX7_beginning_13 : decode cX7_beginning 13 = .ok (.if_icmp .ge 38, 3) := by decide +kernel
theorem dX7_beginning_16 : decode cX7_beginning 16 = .ok (.iload_n 3, 1) := by decide +kernel
theorem dX7_beginning_17 : decode cX7_beginning 17 = .ok (.aload_n 0, 1) := by decide +kernel
theorem dX7_beginning_18 : decode cX7_beginning 18 = .ok (.iload 4, 2) := by decide +kernel
theorem dX7_beginning_20 : decode cX7_beginning 20 = .ok (.iconst 1, 1) := by decide +kernel
theorem dX7_beginning_21 : decode cX7_beginning 21 = .ok (.invokevirtual 24, 3) := by decide +kernel
theorem dX7_beginning_24 : decode cX7_beginning 24 = .ok (.bipush 6, 2) := by decide +kernel
theorem dX7_beginning_26 : decode cX7_beginning 26 = .ok (.iload_n 2, 1) := by decide +kernel
theorem dX7_beginning_27 : decode cX7_beginning 27 = .ok (.isub, 1) := by decide +kernel
theorem dX7_beginning_28 : decode cX7_beginning 28 = .ok (.ishr, 1) := by decide +kernel
theorem dX7_beginning_29 : decode cX7_beginning 29 = .ok (.iload_n 1, 1) := by decide +kernel
theorem dX7_beginning_30 : decode cX7_beginning 30 = .ok (.bipush 6, 2) := by decide +kernel
theorem dX7_beginning_32 : decode cX7_beginning 32 = .ok (.iload_n 2, 1) := by decide +kernel
theorem dX7_beginning_33 : decode cX7_beginning 33 = .ok (.isub, 1) := by decide +kernel
theorem dX7_beginning_34 : decode cX7_beginning 34 = .ok (.ishr, 1) := by decide +kernel
theorem dX7_beginning_35 : decode cX7_beginning 35 = .ok (.if_icmp .ne 7, 3) := by decide +kernel
theorem dX7_beginning_38 : decode cX7_beginning 38 = .ok (.iconst 1, 1) := by decide +kernel
theorem dX7_beginning_39 : decode cX7_beginning 39 = .ok (.goto 4, 3) := by decide +kernel
theorem dX7_beginning_42 : decode cX7_beginning 42 = .ok (.iconst 0, 1) := by decide +kernel
theorem dX7_beginning_43 : decode cX7_beginning 43 = .ok (.iadd, 1) := by decide +kernel
theorem dX7_beginning_44 : decode cX7_beginning 44 = .ok (.istore_n 3, 1) := by decide +kernel
theorem dX7_beginning_45 : decode cX7_beginning 45 = .ok (.iinc 4 1, 3) := by decide +kernel
theorem dX7_beginning_48 : decode cX7_beginning 48 = .ok (.goto (-43), 3) := by decide +kernel
theorem dX7_beginning_51 : decode cX7_beginning 51 = .ok (.iload_n 3, 1) := by decide +kernel
theorem dX7_beginning_52 : decode cX7_beginning 52 = .ok (.ireturn, 1) := by decide +kernel
theorem dX7_nodeAt_0 : decode cX7_nodeAt 0 = .ok (.iconst 1, 1) := by decide +kernel
theorem dX7_nodeAt_1 : decode cX7_nodeAt 1 = .ok (.iload_n 1, 1) := by decide +kernel
theorem dX7_nodeAt_2 : decode cX7_nodeAt 2 = .ok (.ishl, 1) := by decide +kernel
theorem dX7_nodeAt_3 : decode cX7_nodeAt 3 = .ok (.iload_n 0, 1) := by decide +kernel
theorem dX7_nodeAt_4 : decode cX7_nodeAt 4 = .ok (.bipush 6, 2) := by decide +kernel
theorem dX7_nodeAt_6 : decode cX7_nodeAt 6 = .ok (.iload_n 1, 1) := by decide +kernel
theorem dX7_nodeAt_7 : decode cX7_nodeAt 7 = .ok (.isub, 1) := by decide +kernel
theorem dX7_nodeAt_8 : decode cX7_nodeAt 8 = .ok (.ishr, 1) := by decide +kernel
theorem dX7_nodeAt_9 : decode cX7_nodeAt 9 = .ok (.iadd, 1) := by decide +kernel
theorem dX7_nodeAt_10 : decode cX7_nodeAt 10 = .ok (.ireturn, 1) := by decide +kernel
set_option maxRecDepth 20000 in
theorem ggX7_splitsFor_X7_depthAt : GoodIn wsX7_splitsFor wsX7_depthAt := goodIn_r _ [6, 1, 18, 19, 20, 21, 22, 23, 24, 25, 26, 27, 28, 29] (by decide +kernel) (by decide +kernel)
set_option maxRecDepth 20000 in
theorem gX7_splitsFor_X7_depthAt : GoodIn wsX7_splitsFor (wsV RX7 28 RX7 yX7_depthAt wsX7_depthAt) := goodIn_app (goodIn_of _ (by decide +kernel)) ggX7_splitsFor_X7_depthAt
set_option maxRecDepth 20000 in
theorem ggX7_splitsFor_X7_beginning : GoodIn wsX7_splitsFor wsX7_beginning := goodIn_r _ [10, 1, 11, 12, 13, 5, 14, 18, 19, 20, 21, 22, 23, 24, 25, 26, 27, 28, 29] (by decide +kernel) (by decide +kernel)
set_option maxRecDepth 20000 in
theorem gX7_splitsFor_X7_beginning : GoodIn wsX7_splitsFor (wsV RX7 32 RX7 yX7_beginning wsX7_beginning) := goodIn_app (goodIn_of _ (by decide +kernel)) ggX7_splitsFor_X7_beginning
set_option maxRecDepth 20000 in
theorem ggX7_splitsFor_X7_nodeAt : GoodIn wsX7_splitsFor wsX7_nodeAt := goodIn_r _ [17] (by decide +kernel) (by decide +kernel)
set_option maxRecDepth 20000 in
theorem gX7_splitsFor_X7_nodeAt : GoodIn wsX7_splitsFor (va_wsS RX7 35 yX7_nodeAt wsX7_nodeAt) := goodIn_app (goodIn_of _ (by decide +kernel)) ggX7_splitsFor_X7_nodeAt
theorem dX7_splitsFor_0 : decode cX7_splitsFor 0 = .ok (.aload_n 0, 1) := by decide +kernel
theorem dX7_splitsFor_1 : decode cX7_splitsFor 1 = .ok (.iload_n 1, 1) := by decide +kernel
theorem dX7_splitsFor_2 : decode cX7_splitsFor 2 = .ok (.invokevirtual 28, 3) := by decide +kernel
theorem dX7_splitsFor_5 : decode cX7_splitsFor 5 = .ok (.istore_n 2, 1) := by decide +kernel
theorem dX7_splitsFor_6 : decode cX7_splitsFor 6 = .ok (.iload_n 2, 1) := by decide +kernel
theorem dX7_splitsFor_7 : decode cX7_splitsFor 7 = .ok (.bipush 6, 2) := by decide +kernel
theorem dX7_splitsFor_9 : decode cX7_splitsFor 9 = .ok (.if_icmp .ge 43, 3) := by decide +kernel
theorem dX7_splitsFor_12 : decode cX7_splitsFor 12 = .ok (.aload_n 0, 1) := by decide +kernel
theorem dX7_splitsFor_13 : decode cX7_splitsFor 13 = .ok (.iload_n 1, 1) := by decide +kernel
theorem dX7_splitsFor_14 : decode cX7_splitsFor 14 = .ok (.iload_n 2, 1) := by decide +kernel
theorem dX7_splitsFor_15 : decode cX7_splitsFor 15 = .ok (.invokevirtual 32, 3) := by decide +kernel
theorem dX7_splitsFor_18 : decode cX7_splitsFor 18 = .ok (.iconst 4, 1) := by decide +kernel
theorem dX7_splitsFor_19 : decode cX7_splitsFor 19 = .ok (.if_icmp .le 33, 3) := by decide +kernel
theorem dX7_splitsFor_22 : decode cX7_splitsFor 22 = .ok (.aload_n 0, 1) := by decide +kernel
theorem dX7_splitsFor_23 : decode cX7_splitsFor 23 = .ok (.getfield 7, 3) := by decide +kernel
theorem dX7_splitsFor_26 : decode cX7_splitsFor 26 = .ok (.bipush 8, 2) := by decide +kernel
theorem dX7_splitsFor_28 : decode cX7_splitsFor 28 = .ok (.iload_n 1, 1) := by decide +kernel
theorem dX7_splitsFor_29 : decode cX7_splitsFor 29 = .ok (.iload_n 2, 1) := by decide +kernel
theorem dX7_splitsFor_30 : decode cX7_splitsFor 30 = .ok (.invokestatic 35, 3) := by decide +kernel
theorem dX7_splitsFor_33 : decode cX7_splitsFor 33 = .ok (.iadd, 1) := by decide +kernel
theorem dX7_splitsFor_34 : decode cX7_splitsFor 34 = .ok (.iconst 1, 1) := by decide +kernel
theorem dX7_splitsFor_35 : decode cX7_splitsFor 35 = .ok (.iastore, 1) := by decide +kernel
theorem dX7_splitsFor_36 : decode cX7_splitsFor 36 = .ok (.aload_n 0, 1) := by decide +kernel
theorem dX7_splitsFor_37 : decode cX7_splitsFor 37 = .ok (.getfield 7, 3) := by decide +kernel
theorem dX7_splitsFor_40 : decode cX7_splitsFor 40 = .ok (.iconst 2, 1) := by decide +kernel
theorem dX7_splitsFor_41 : decode cX7_splitsFor 41 = .ok (.dup2, 1) := by decide +kernel
theorem dX7_splitsFor_42 : decode cX7_splitsFor 42 = .ok (.iaload, 1) := by decide +kernel
theorem dX7_splitsFor_43 : decode cX7_splitsFor 43 = .ok (.iconst 1, 1) := by decide +kernel
theorem dX7_splitsFor_44 : decode cX7_splitsFor 44 = .ok (.iadd, 1) := by decide +kernel
theorem dX7_splitsFor_45 : decode cX7_splitsFor 45 = .ok (.iastore, 1) := by decide +kernel
theorem dX7_splitsFor_46 : decode cX7_splitsFor 46 = .ok (.iinc 2 1, 3) := by decide +kernel
theorem dX7_splitsFor_49 : decode cX7_splitsFor 49 = .ok (.goto (-43), 3) := by decide +kernel
theorem dX7_splitsFor_52 : decode cX7_splitsFor 52 = .ok (.return_, 1) := by decide +kernel
set_option maxRecDepth 20000 in
theorem ggX7_mergesFor_X7_depthAt : GoodIn wsX7_mergesFor wsX7_depthAt := goodIn_r _ [6, 1, 22, 23, 24, 25, 26, 27, 28, 29, 30, 31, 32, 33] (by decide +kernel) (by decide +kernel)
set_option maxRecDepth 20000 in
theorem gX7_mergesFor_X7_depthAt : GoodIn wsX7_mergesFor (wsV RX7 28 RX7 yX7_depthAt wsX7_depthAt) := goodIn_app (goodIn_of _ (by decide +kernel)) ggX7_mergesFor_X7_depthAt
set_option maxRecDepth 20000 in
theorem ggX7_mergesFor_X7_beginning : GoodIn wsX7_mergesFor wsX7_beginning := goodIn_r _ [10, 1, 11, 12, 13, 5, 14, 22, 23, 24, 25, 26, 27, 28, 29, 30, 31, 32, 33] (by decide +kernel) (by decide +kernel)
set_option maxRecDepth 20000 in
theorem gX7_mergesFor_X7_beginning : GoodIn wsX7_mergesFor (wsV RX7 32 RX7 yX7_beginning wsX7_beginning) := goodIn_app (goodIn_of _ (by decide +kernel)) ggX7_mergesFor_X7_beginning
set_option maxRecDepth 20000 in
theorem ggX7_mergesFor_X7_isLeafBeside : GoodIn wsX7_mergesFor wsX7_isLeafBeside := goodIn_r _ [18, 1, 19, 20, 5, 21, 22, 23, 24, 25, 26, 27, 28, 29, 30, 31, 32, 33] (by decide +kernel) (by decide +kernel)
set_option maxRecDepth 20000 in
theorem gX7_mergesFor_X7_isLeafBeside : GoodIn wsX7_mergesFor (wsV RX7 38 RX7 yX7_isLeafBeside wsX7_isLeafBeside) := goodIn_app (goodIn_of _ (by decide +kernel)) ggX7_mergesFor_X7_isLeafBeside
set_option maxRecDepth 20000 in
theorem ggX7_mergesFor_X7_nodeAt : GoodIn wsX7_mergesFor wsX7_nodeAt := goodIn_r _ [21] (by decide +kernel) (by decide +kernel)
set_option maxRecDepth 20000 in
theorem gX7_mergesFor_X7_nodeAt : GoodIn wsX7_mergesFor (va_wsS RX7 35 yX7_nodeAt wsX7_nodeAt) := goodIn_app (goodIn_of _ (by decide +kernel)) ggX7_mergesFor_X7_nodeAt
theorem dX7_mergesFor_0 : decode cX7_mergesFor 0 = .ok (.aload_n 0, 1) := by decide +kernel
theorem dX7_mergesFor_1 : decode cX7_mergesFor 1 = .ok (.iload_n 1, 1) := by decide +kernel
theorem dX7_mergesFor_2 : decode cX7_mergesFor 2 = .ok (.invokevirtual 28, 3) := by decide +kernel
theorem dX7_mergesFor_5 : decode cX7_mergesFor 5 = .ok (.istore_n 2, 1) := by decide +kernel
theorem dX7_mergesFor_6 : decode cX7_mergesFor 6 = .ok (.iload_n 2, 1) := by decide +kernel
theorem dX7_mergesFor_7 : decode cX7_mergesFor 7 = .ok (.ifCond .le 54, 3) := by decide +kernel
theorem dX7_mergesFor_10 : decode cX7_mergesFor 10 = .ok (.aload_n 0, 1) := by decide +kernel
theorem dX7_mergesFor_11 : decode cX7_mergesFor 11 = .ok (.iload_n 1, 1) := by decide +kernel
theorem dX7_mergesFor_12 : decode cX7_mergesFor 12 = .ok (.iload_n 2, 1) := by decide +kernel
theorem dX7_mergesFor_13 : decode cX7_mergesFor 13 = .ok (.iconst 1, 1) := by decide +kernel
theorem dX7_mergesFor_14 : decode cX7_mergesFor 14 = .ok (.isub, 1) := by decide +kernel
theorem dX7_mergesFor_15 : decode cX7_mergesFor 15 = .ok (.invokevirtual 32, 3) := by decide +kernel
theorem dX7_mergesFor_18 : decode cX7_mergesFor 18 = .ok (.iconst 2, 1) := by decide +kernel
theorem dX7_mergesFor_19 : decode cX7_mergesFor 19 = .ok (.if_icmp .gt 42, 3) := by decide +kernel
theorem dX7_mergesFor_22 : decode cX7_mergesFor 22 = .ok (.aload_n 0, 1) := by decide +kernel
theorem dX7_mergesFor_23 : decode cX7_mergesFor 23 = .ok (.iload_n 1, 1) := by decide +kernel
theorem dX7_mergesFor_24 : decode cX7_mergesFor 24 = .ok (.iload_n 2, 1) := by decide +kernel
theorem dX7_mergesFor_25 : decode cX7_mergesFor 25 = .ok (.invokevirtual 38, 3) := by decide +kernel
theorem dX7_mergesFor_28 : decode cX7_mergesFor 28 = .ok (.ifCond .eq 33, 3) := by decide +kernel
theorem dX7_mergesFor_31 : decode cX7_mergesFor 31 = .ok (.iinc 2 (-1), 3) := by decide +kernel
theorem dX7_mergesFor_34 : decode cX7_mergesFor 34 = .ok (.aload_n 0, 1) := by decide +kernel
theorem dX7_mergesFor_35 : decode cX7_mergesFor 35 = .ok (.getfield 7, 3) := by decide +kernel
theorem dX7_mergesFor_38 : decode cX7_mergesFor 38 = .ok (.bipush 8, 2) := by decide +kernel
theorem dX7_mergesFor_40 : decode cX7_mergesFor 40 = .ok (.iload_n 1, 1) := by decide +kernel
theorem dX7_mergesFor_41 : decode cX7_mergesFor 41 = .ok (.iload_n 2, 1) := by decide +kernel
theorem dX7_mergesFor_42 : decode cX7_mergesFor 42 = .ok (.invokestatic 35, 3) := by decide +kernel
theorem dX7_mergesFor_45 : decode cX7_mergesFor 45 = .ok (.iadd, 1) := by decide +kernel
theorem dX7_mergesFor_46 : decode cX7_mergesFor 46 = .ok (.iconst 0, 1) := by decide +kernel
theorem dX7_mergesFor_47 : decode cX7_mergesFor 47 = .ok (.iastore, 1) := by decide +kernel
theorem dX7_mergesFor_48 : decode cX7_mergesFor 48 = .ok (.aload_n 0, 1) := by decide +kernel
theorem dX7_mergesFor_49 : decode cX7_mergesFor 49 = .ok (.getfield 7, 3) := by decide +kernel
theorem dX7_mergesFor_52 : decode cX7_mergesFor 52 = .ok (.iconst 3, 1) := by decide +kernel
theorem dX7_mergesFor_53 : decode cX7_mergesFor 53 = .ok (.dup2, 1) := by decide +kernel
theorem dX7_mergesFor_54 : decode cX7_mergesFor 54 = .ok (.iaload, 1) := by decide +kernel
theorem dX7_mergesFor_55 : decode cX7_mergesFor 55 = .ok (.iconst 1, 1) := by decide +kernel
theorem dX7_mergesFor_56 : decode cX7_mergesFor 56 = .ok (.iadd, 1) := by decide +kernel
theorem dX7_mergesFor_57 : decode cX7_mergesFor 57 = .ok (.iastore, 1) := by decide +kernel
theorem dX7_mergesFor_58 : decode cX7_mergesFor 58 = .ok (.goto (-52), 3) := by decide +kernel
theorem dX7_mergesFor_61 : decode cX7_mergesFor 61 = .ok (.return_, 1) := by decide +kernel
set_option maxRecDepth 20000 in
theorem ggX7_isLeafBeside_X7_nodeAt : GoodIn wsX7_isLeafBeside wsX7_nodeAt := goodIn_r _ [5] (by decide +kernel) (by decide +kernel)
set_option maxRecDepth 20000 in
theorem gX7_isLeafBeside_X7_nodeAt : GoodIn wsX7_isLeafBeside (va_wsS RX7 35 yX7_nodeAt wsX7_nodeAt) := goodIn_app (goodIn_of _ (by decide +kernel)) ggX7_isLeafBeside_X7_nodeAt
theorem dX7_isLeafBeside_0 : decode cX7_isLeafBeside 0 = .ok (.iload_n 1, 1) := by decide +kernel
theorem dX7_isLeafBeside_1 : decode cX7_isLeafBeside 1 = .ok (.iload_n 2, 1) := by decide +kernel
theorem dX7_isLeafBeside_2 : decode cX7_isLeafBeside 2 = .ok (.invokestatic 35, 3) := by decide +kernel
theorem dX7_isLeafBeside_5 : decode cX7_isLeafBeside 5 = .ok (.istore_n 3, 1) := by decide +kernel
theorem dX7_isLeafBeside_6 : decode cX7_isLeafBeside 6 = .ok (.iload_n 3, 1) := by decide +kernel
theorem dX7_isLeafBeside_7 : decode cX7_isLeafBeside 7 = .ok (.iconst 2, 1) := by decide +kernel
theorem dX7_isLeafBeside_8 : decode cX7_isLeafBeside 8 = .ok (.irem, 1) := by decide +kernel
theorem dX7_isLeafBeside_9 : decode cX7_isLeafBeside 9 = .ok (.ifCond .ne 9, 3) := by decide +kernel
theorem dX7_isLeafBeside_12 : decode cX7_isLeafBeside 12 = .ok (.iload_n 3, 1) := by decide +kernel
theorem dX7_isLeafBeside_13 : decode cX7_isLeafBeside 13 = .ok (.iconst 1, 1) := by decide +kernel
theorem dX7_isLeafBeside_14 : decode cX7_isLeafBeside 14 = .ok (.iadd, 1) := by decide +kernel
theorem dX7_isLeafBeside_15 : decode cX7_isLeafBeside 15 = .ok (.goto 6, 3) := by decide +kernel
theorem dX7_isLeafBeside_18 : decode cX7_isLeafBeside 18 = .ok (.iload_n 3, 1) := by decide +kernel
theorem dX7_isLeafBeside_19 : decode cX7_isLeafBeside 19 = .ok (.iconst 1, 1) := by decide +kernel
theorem dX7_isLeafBeside_20 : decode cX7_isLeafBeside 20 = .ok (.isub, 1) := by decide +kernel
theorem dX7_isLeafBeside_21 : decode cX7_isLeafBeside 21 = .ok (.istore 4, 2) := by decide +kernel
theorem dX7_isLeafBeside_23 : decode cX7_isLeafBeside 23 = .ok (.iload_n 2, 1) := by decide +kernel
theorem dX7_isLeafBeside_24 : decode cX7_isLeafBeside 24 = .ok (.bipush 6, 2) := by decide +kernel
theorem dX7_isLeafBeside_26 : decode cX7_isLeafBeside 26 = .ok (.if_icmp .eq 16, 3) := by decide +kernel
theorem dX7_isLeafBeside_29 : decode cX7_isLeafBeside 29 = .ok (.aload_n 0, 1) := by decide +kernel
theorem dX7_isLeafBeside_30 : decode cX7_isLeafBeside 30 = .ok (.getfield 7, 3) := by decide +kernel
theorem dX7_isLeafBeside_33 : decode cX7_isLeafBeside 33 = .ok (.bipush 8, 2) := by decide +kernel
theorem dX7_isLeafBeside_35 : decode cX7_isLeafBeside 35 = .ok (.iload 4, 2) := by decide +kernel
theorem dX7_isLeafBeside_37 : decode cX7_isLeafBeside 37 = .ok (.iadd, 1) := by decide +kernel
theorem dX7_isLeafBeside_38 : decode cX7_isLeafBeside 38 = .ok (.iaload, 1) := by decide +kernel
theorem dX7_isLeafBeside_39 : decode cX7_isLeafBeside 39 = .ok (.ifCond .ne 7, 3) := by decide +kernel
theorem dX7_isLeafBeside_42 : decode cX7_isLeafBeside 42 = .ok (.iconst 1, 1) := by decide +kernel
theorem dX7_isLeafBeside_43 : decode cX7_isLeafBeside 43 = .ok (.goto 4, 3) := by decide +kernel
theorem dX7_isLeafBeside_46 : decode cX7_isLeafBeside 46 = .ok (.iconst 0, 1) := by decide +kernel
theorem dX7_isLeafBeside_47 : decode cX7_isLeafBeside 47 = .ok (.ireturn, 1) := by decide +kernel
theorem dX7_leavesNow_0 : decode cX7_leavesNow 0 = .ok (.iconst 1, 1) := by decide +kernel
theorem dX7_leavesNow_1 : decode cX7_leavesNow 1 = .ok (.aload_n 0, 1) := by decide +kernel
theorem dX7_leavesNow_2 : decode cX7_leavesNow 2 = .ok (.getfield 7, 3) := by decide +kernel
theorem dX7_leavesNow_5 : decode cX7_leavesNow 5 = .ok (.iconst 2, 1) := by decide +kernel
theorem dX7_leavesNow_6 : decode cX7_leavesNow 6 = .ok (.iaload, 1) := by decide +kernel
theorem dX7_leavesNow_7 : decode cX7_leavesNow 7 = .ok (.iadd, 1) := by decide +kernel
theorem dX7_leavesNow_8 : decode cX7_leavesNow 8 = .ok (.aload_n 0, 1) := by decide +kernel
theorem dX7_leavesNow_9 : decode cX7_leavesNow 9 = .ok (.getfield 7, 3) := by decide +kernel
theorem dX7_leavesNow_12 : decode cX7_leavesNow 12 = .ok (.iconst 3, 1) := by decide +kernel
theorem dX7_leavesNow_13 : decode cX7_leavesNow 13 = .ok (.iaload, 1) := by decide +kernel
theorem dX7_leavesNow_14 : decode cX7_leavesNow 14 = .ok (.isub, 1) := by decide +kernel
theorem dX7_leavesNow_15 : decode cX7_leavesNow 15 = .ok (.ireturn, 1) := by decide +kernel
set_option maxRecDepth 20000 in
theorem ggX7_makes_X7_hashOfName : GoodIn wsX7_makes wsX7_hashOfName := goodIn_r _ [7, 2, 31, 32, 33, 34, 35, 36, 37, 38, 39, 40, 41, 42] (by decide +kernel) (by decide +kernel)
set_option maxRecDepth 20000 in
theorem gX7_makes_X7_hashOfName : GoodIn wsX7_makes (wsV RX7 42 RX7 yX7_hashOfName wsX7_hashOfName) := goodIn_app (goodIn_of _ (by decide +kernel)) ggX7_makes_X7_hashOfName
set_option maxRecDepth 20000 in
theorem ggX7_makes_X7_keyAt : GoodIn wsX7_makes wsX7_keyAt := goodIn_r _ [11, 12, 13, 14, 6, 15, 1, 31, 32, 33, 34, 35, 36, 37, 38, 39, 40, 41, 42] (by decide +kernel) (by decide +kernel)
set_option maxRecDepth 20000 in
theorem gX7_makes_X7_keyAt : GoodIn wsX7_makes (wsV RX7 45 RX7 yX7_keyAt wsX7_keyAt) := goodIn_app (goodIn_of _ (by decide +kernel)) ggX7_makes_X7_keyAt
set_option maxRecDepth 20000 in
theorem ggX7_makes_X7_splitsFor : GoodIn wsX7_makes wsX7_splitsFor := goodIn_r _ [19, 1, 20, 21, 22, 6, 23, 24, 25, 26, 27, 12, 13, 14, 15, 28, 29, 30, 31, 32, 33, 34, 35, 36, 37, 38, 39, 40, 41, 42] (by decide +kernel) (by decide +kernel)
set_option maxRecDepth 20000 in
theorem gX7_makes_X7_splitsFor : GoodIn wsX7_makes (wsV RX7 48 RX7 yX7_splitsFor wsX7_splitsFor) := goodIn_app (goodIn_of _ (by decide +kernel)) ggX7_makes_X7_splitsFor
theorem dX7_makes_0 : decode cX7_makes 0 = .ok (.aload_n 0, 1) := by decide +kernel
theorem dX7_makes_1 : decode cX7_makes 1 = .ok (.getfield 7, 3) := by decide +kernel
theorem dX7_makes_4 : decode cX7_makes 4 = .ok (.iconst 1, 1) := by decide +kernel
theorem dX7_makes_5 : decode cX7_makes 5 = .ok (.iaload, 1) := by decide +kernel
theorem dX7_makes_6 : decode cX7_makes 6 = .ok (.istore_n 3, 1) := by decide +kernel
theorem dX7_makes_7 : decode cX7_makes 7 = .ok (.aload_n 0, 1) := by decide +kernel
theorem dX7_makes_8 : decode cX7_makes 8 = .ok (.iload_n 1, 1) := by decide +kernel
theorem dX7_makes_9 : decode cX7_makes 9 = .ok (.iload_n 2, 1) := by decide +kernel
theorem dX7_makes_10 : decode cX7_makes 10 = .ok (.invokevirtual 42, 3) := by decide +kernel
theorem dX7_makes_13 : decode cX7_makes 13 = .ok (.istore 4, 2) := by decide +kernel
theorem dX7_makes_15 : decode cX7_makes 15 = .ok (.aload_n 0, 1) := by decide +kernel
theorem dX7_makes_16 : decode cX7_makes 16 = .ok (.getfield 7, 3) := by decide +kernel
theorem dX7_makes_19 : decode cX7_makes 19 = .ok (.iconst 0, 1) := by decide +kernel
theorem dX7_makes_20 : decode cX7_makes 20 = .ok (.iaload, 1) := by decide +kernel
theorem dX7_makes_21 : decode cX7_makes 21 = .ok (.istore 5, 2) := by decide +kernel
theorem dX7_makes_23 : decode cX7_makes 23 = .ok (.iload 5, 2) := by decide +kernel
theorem dX7_makes_25 : decode cX7_makes 25 = .ok (.ifCond .le 28, 3) := by decide +kernel
theorem dX7_makes_28 : decode cX7_makes 28 = .ok (.aload_n 0, 1) := by decide +kernel
theorem dX7_makes_29 : decode cX7_makes 29 = .ok (.iload 5, 2) := by decide +kernel
theorem dX7_makes_31 : decode cX7_makes 31 = .ok (.iconst 1, 1) := by decide +kernel
theorem dX7_makes_32 : decode cX7_makes 32 = .ok (.isub, 1) := by decide +kernel
theorem dX7_makes_33 : decode cX7_makes 33 = .ok (.invokevirtual 45, 3) := by decide +kernel
theorem dX7_makes_36 : decode cX7_makes 36 = .ok (.sipush 1000, 3) := by decide +kernel
theorem dX7_makes_39 : decode cX7_makes 39 = .ok (.iload 4, 2) := by decide +kernel
theorem dX7_makes_41 : decode cX7_makes 41 = .ok (.imul, 1) := by decide +kernel
theorem dX7_makes_42 : decode cX7_makes 42 = .ok (.iload_n 3, 1) := by decide +kernel
theorem dX7_makes_43 : decode cX7_makes 43 = .ok (.iadd, 1) := by decide +kernel
theorem dX7_makes_44 : decode cX7_makes 44 = .ok (.if_icmp .le 9, 3) := by decide +kernel
theorem dX7_makes_47 : decode cX7_makes 47 = .ok (.iinc 5 (-1), 3) := by decide +kernel
theorem dX7_makes_50 : decode cX7_makes 50 = .ok (.goto (-27), 3) := by decide +kernel
theorem dX7_makes_53 : decode cX7_makes 53 = .ok (.bipush 9, 2) := by decide +kernel
theorem dX7_makes_55 : decode cX7_makes 55 = .ok (.aload_n 0, 1) := by decide +kernel
theorem dX7_makes_56 : decode cX7_makes 56 = .ok (.getfield 7, 3) := by decide +kernel
theorem dX7_makes_59 : decode cX7_makes 59 = .ok (.iconst 0, 1) := by decide +kernel
theorem dX7_makes_60 : decode cX7_makes 60 = .ok (.iaload, 1) := by decide +kernel
theorem dX7_makes_61 : decode cX7_makes 61 = .ok (.imul, 1) := by decide +kernel
theorem dX7_makes_62 : decode cX7_makes 62 = .ok (.iconst 1, 1) := by decide +kernel
theorem dX7_makes_63 : decode cX7_makes 63 = .ok (.isub, 1) := by decide +kernel
theorem dX7_makes_64 : decode cX7_makes 64 = .ok (.istore 6, 2) := by decide +kernel
theorem dX7_makes_66 : decode cX7_makes 66 = .ok (.iload 6, 2) := by decide +kernel
theorem dX7_makes_68 : decode cX7_makes 68 = .ok (.bipush 9, 2) := by decide +kernel
theorem dX7_makes_70 : decode cX7_makes 70 = .ok (.iload 5, 2) := by decide +kernel
theorem dX7_makes_72 : decode cX7_makes 72 = .ok (.imul, 1) := by decide +kernel
theorem dX7_makes_73 : decode cX7_makes 73 = .ok (.if_icmp .lt 32, 3) := by decide +kernel
theorem dX7_makes_76 : decode cX7_makes 76 = .ok (.aload_n 0, 1) := by decide +kernel
theorem dX7_makes_77 : decode cX7_makes 77 = .ok (.getfield 7, 3) := by decide +kernel
theorem dX7_makes_80 : decode cX7_makes 80 = .ok (.bipush 72, 2) := by decide +kernel
theorem dX7_makes_82 : decode cX7_makes 82 = .ok (.iload 6, 2) := by decide +kernel
theorem dX7_makes_84 : decode cX7_makes 84 = .ok (.iadd, 1) := by decide +kernel
theorem dX7_makes_85 : decode cX7_makes 85 = .ok (.bipush 9, 2) := by decide +kernel
theorem dX7_makes_87 : decode cX7_makes 87 = .ok (.iadd, 1) := by decide +kernel
theorem dX7_makes_88 : decode cX7_makes 88 = .ok (.aload_n 0, 1) := by decide +kernel
theorem dX7_makes_89 : decode cX7_makes 89 = .ok (.getfield 7, 3) := by decide +kernel
theorem dX7_makes_92 : decode cX7_makes 92 = .ok (.bipush 72, 2) := by decide +kernel
theorem dX7_makes_94 : decode cX7_makes 94 = .ok (.iload 6, 2) := by decide +kernel
theorem dX7_makes_96 : decode cX7_makes 96 = .ok (.iadd, 1) := by decide +kernel
theorem dX7_makes_97 : decode cX7_makes 97 = .ok (.iaload, 1) := by decide +kernel
theorem dX7_makes_98 : decode cX7_makes 98 = .ok (.iastore, 1) := by decide +kernel
theorem dX7_makes_99 : decode cX7_makes 99 = .ok (.iinc 6 (-1), 3) := by decide +kernel
theorem dX7_makes_102 : decode cX7_makes 102 = .ok (.goto (-36), 3) := by decide +kernel
theorem dX7_makes_105 : decode cX7_makes 105 = .ok (.bipush 72, 2) := by decide +kernel
theorem dX7_makes_107 : decode cX7_makes 107 = .ok (.bipush 9, 2) := by decide +kernel
theorem dX7_makes_109 : decode cX7_makes 109 = .ok (.iload 5, 2) := by decide +kernel
theorem dX7_makes_111 : decode cX7_makes 111 = .ok (.imul, 1) := by decide +kernel
theorem dX7_makes_112 : decode cX7_makes 112 = .ok (.iadd, 1) := by decide +kernel
theorem dX7_makes_113 : decode cX7_makes 113 = .ok (.istore 6, 2) := by decide +kernel
theorem dX7_makes_115 : decode cX7_makes 115 = .ok (.aload_n 0, 1) := by decide +kernel
theorem dX7_makes_116 : decode cX7_makes 116 = .ok (.getfield 7, 3) := by decide +kernel
theorem dX7_makes_119 : decode cX7_makes 119 = .ok (.iload 6, 2) := by decide +kernel
theorem dX7_makes_121 : decode cX7_makes 121 = .ok (.iconst 0, 1) := by decide +kernel
theorem dX7_makes_122 : decode cX7_makes 122 = .ok (.iadd, 1) := by decide +kernel
theorem dX7_makes_123 : decode cX7_makes 123 = .ok (.iload_n 3, 1) := by decide +kernel
theorem dX7_makes_124 : decode cX7_makes 124 = .ok (.iastore, 1) := by decide +kernel
theorem dX7_makes_125 : decode cX7_makes 125 = .ok (.aload_n 0, 1) := by decide +kernel
theorem dX7_makes_126 : decode cX7_makes 126 = .ok (.getfield 7, 3) := by decide +kernel
theorem dX7_makes_129 : decode cX7_makes 129 = .ok (.iload 6, 2) := by decide +kernel
theorem dX7_makes_131 : decode cX7_makes 131 = .ok (.iconst 1, 1) := by decide +kernel
theorem dX7_makes_132 : decode cX7_makes 132 = .ok (.iadd, 1) := by decide +kernel
theorem dX7_makes_133 : decode cX7_makes 133 = .ok (.iload 4, 2) := by decide +kernel
theorem dX7_makes_135 : decode cX7_makes 135 = .ok (.iastore, 1) := by decide +kernel
theorem dX7_makes_136 : decode cX7_makes 136 = .ok (.aload_n 0, 1) := by decide +kernel
theorem dX7_makes_137 : decode cX7_makes 137 = .ok (.getfield 7, 3) := by decide +kernel
theorem dX7_makes_140 : decode cX7_makes 140 = .ok (.iload 6, 2) := by decide +kernel
theorem dX7_makes_142 : decode cX7_makes 142 = .ok (.iconst 2, 1) := by decide +kernel
theorem dX7_makes_143 : decode cX7_makes 143 = .ok (.iadd, 1) := by decide +kernel
theorem dX7_makes_144 : decode cX7_makes 144 = .ok (.iload_n 2, 1) := by decide +kernel
theorem dX7_makes_145 : decode cX7_makes 145 = .ok (.iastore, 1) := by decide +kernel
theorem dX7_makes_146 : decode cX7_makes 146 = .ok (.iconst 0, 1) := by decide +kernel
theorem dX7_makes_147 : decode cX7_makes 147 = .ok (.istore 7, 2) := by decide +kernel
theorem dX7_makes_149 : decode cX7_makes 149 = .ok (.iload 7, 2) := by decide +kernel
theorem dX7_makes_151 : decode cX7_makes 151 = .ok (.bipush 6, 2) := by decide +kernel
theorem dX7_makes_153 : decode cX7_makes 153 = .ok (.if_icmp .ge 40, 3) := by decide +kernel
theorem dX7_makes_156 : decode cX7_makes 156 = .ok (.aload_n 0, 1) := by decide +kernel
theorem dX7_makes_157 : decode cX7_makes 157 = .ok (.getfield 7, 3) := by decide +kernel
theorem dX7_makes_160 : decode cX7_makes 160 = .ok (.iload 6, 2) := by decide +kernel
theorem dX7_makes_162 : decode cX7_makes 162 = .ok (.iconst 3, 1) := by decide +kernel
theorem dX7_makes_163 : decode cX7_makes 163 = .ok (.iadd, 1) := by decide +kernel
theorem dX7_makes_164 : decode cX7_makes 164 = .ok (.iload 7, 2) := by decide +kernel
theorem dX7_makes_166 : decode cX7_makes 166 = .ok (.iadd, 1) := by decide +kernel
theorem dX7_makes_167 : decode cX7_makes 167 = .ok (.iload 7, 2) := by decide +kernel
theorem dX7_makes_169 : decode cX7_makes 169 = .ok (.iload_n 2, 1) := by decide +kernel
theorem dX7_makes_170 : decode cX7_makes 170 = .ok (.if_icmp .ge 15, 3) := by decide +kernel
theorem dX7_makes_173 : decode cX7_makes 173 = .ok (.aload_n 0, 1) := by decide +kernel
theorem dX7_makes_174 : decode cX7_makes 174 = .ok (.getfield 17, 3) := by decide +kernel
theorem dX7_makes_177 : decode cX7_makes 177 = .ok (.iload_n 1, 1) := by decide +kernel
theorem dX7_makes_178 : decode cX7_makes 178 = .ok (.iload 7, 2) := by decide +kernel
theorem dX7_makes_180 : decode cX7_makes 180 = .ok (.iadd, 1) := by decide +kernel
theorem dX7_makes_181 : decode cX7_makes 181 = .ok (.iaload, 1) := by decide +kernel
theorem dX7_makes_182 : decode cX7_makes 182 = .ok (.goto 4, 3) := by decide +kernel
theorem dX7_makes_185 : decode cX7_makes 185 = .ok (.iconst 0, 1) := by decide +kernel
theorem dX7_makes_186 : decode cX7_makes 186 = .ok (.iastore, 1) := by decide +kernel
theorem dX7_makes_187 : decode cX7_makes 187 = .ok (.iinc 7 1, 3) := by decide +kernel
theorem dX7_makes_190 : decode cX7_makes 190 = .ok (.goto (-41), 3) := by decide +kernel
theorem dX7_makes_193 : decode cX7_makes 193 = .ok (.aload_n 0, 1) := by decide +kernel
theorem dX7_makes_194 : decode cX7_makes 194 = .ok (.getfield 7, 3) := by decide +kernel
theorem dX7_makes_197 : decode cX7_makes 197 = .ok (.iconst 0, 1) := by decide +kernel
theorem dX7_makes_198 : decode cX7_makes 198 = .ok (.dup2, 1) := by decide +kernel
theorem dX7_makes_199 : decode cX7_makes 199 = .ok (.iaload, 1) := by decide +kernel
theorem dX7_makes_200 : decode cX7_makes 200 = .ok (.iconst 1, 1) := by decide +kernel
theorem dX7_makes_201 : decode cX7_makes 201 = .ok (.iadd, 1) := by decide +kernel
theorem dX7_makes_202 : decode cX7_makes 202 = .ok (.iastore, 1) := by decide +kernel
theorem dX7_makes_203 : decode cX7_makes 203 = .ok (.aload_n 0, 1) := by decide +kernel
theorem dX7_makes_204 : decode cX7_makes 204 = .ok (.getfield 7, 3) := by decide +kernel
theorem dX7_makes_207 : decode cX7_makes 207 = .ok (.iconst 1, 1) := by decide +kernel
theorem dX7_makes_208 : decode cX7_makes 208 = .ok (.dup2, 1) := by decide +kernel
theorem dX7_makes_209 : decode cX7_makes 209 = .ok (.iaload, 1) := by decide +kernel
theorem dX7_makes_210 : decode cX7_makes 210 = .ok (.iconst 1, 1) := by decide +kernel
theorem dX7_makes_211 : decode cX7_makes 211 = .ok (.iadd, 1) := by decide +kernel
theorem dX7_makes_212 : decode cX7_makes 212 = .ok (.iastore, 1) := by decide +kernel
theorem dX7_makes_213 : decode cX7_makes 213 = .ok (.aload_n 0, 1) := by decide +kernel
theorem dX7_makes_214 : decode cX7_makes 214 = .ok (.iload 4, 2) := by decide +kernel
theorem dX7_makes_216 : decode cX7_makes 216 = .ok (.invokevirtual 48, 3) := by decide +kernel
theorem dX7_makes_219 : decode cX7_makes 219 = .ok (.iload_n 3, 1) := by decide +kernel
theorem dX7_makes_220 : decode cX7_makes 220 = .ok (.ireturn, 1) := by decide +kernel
set_option maxRecDepth 20000 in
theorem ggX7_takesOut_X7_of : GoodIn wsX7_takesOut wsX7_of := goodIn_r _ [6, 1, 26, 27, 28, 29, 30, 31, 32, 33, 34, 35, 36, 37] (by decide +kernel) (by decide +kernel)
set_option maxRecDepth 20000 in
theorem gX7_takesOut_X7_of : GoodIn wsX7_takesOut (wsV RX7 24 RX7 yX7_of wsX7_of) := goodIn_app (goodIn_of _ (by decide +kernel)) ggX7_takesOut_X7_of
set_option maxRecDepth 20000 in
theorem ggX7_takesOut_X7_mergesFor : GoodIn wsX7_takesOut wsX7_mergesFor := goodIn_r _ [10, 1, 11, 12, 13, 5, 14, 15, 16, 17, 18, 2, 3, 4, 6, 19, 20, 21, 22, 23, 24, 25, 26, 27, 28, 29, 30, 31, 32, 33, 34, 35, 36, 37] (by decide +kernel) (by decide +kernel)
set_option maxRecDepth 20000 in
theorem gX7_takesOut_X7_mergesFor : GoodIn wsX7_takesOut (wsV RX7 52 RX7 yX7_mergesFor wsX7_mergesFor) := goodIn_app (goodIn_of _ (by decide +kernel)) ggX7_takesOut_X7_mergesFor
theorem dX7_takesOut_0 : decode cX7_takesOut 0 = .ok (.aload_n 0, 1) := by decide +kernel
theorem dX7_takesOut_1 : decode cX7_takesOut 1 = .ok (.iload_n 1, 1) := by decide +kernel
theorem dX7_takesOut_2 : decode cX7_takesOut 2 = .ok (.iconst 1, 1) := by decide +kernel
theorem dX7_takesOut_3 : decode cX7_takesOut 3 = .ok (.invokevirtual 24, 3) := by decide +kernel
theorem dX7_takesOut_6 : decode cX7_takesOut 6 = .ok (.istore_n 2, 1) := by decide +kernel
theorem dX7_takesOut_7 : decode cX7_takesOut 7 = .ok (.aload_n 0, 1) := by decide +kernel
theorem dX7_takesOut_8 : decode cX7_takesOut 8 = .ok (.getfield 7, 3) := by decide +kernel
theorem dX7_takesOut_11 : decode cX7_takesOut 11 = .ok (.iconst 0, 1) := by decide +kernel
theorem dX7_takesOut_12 : decode cX7_takesOut 12 = .ok (.dup2, 1) := by decide +kernel
theorem dX7_takesOut_13 : decode cX7_takesOut 13 = .ok (.iaload, 1) := by decide +kernel
theorem dX7_takesOut_14 : decode cX7_takesOut 14 = .ok (.iconst 1, 1) := by decide +kernel
theorem dX7_takesOut_15 : decode cX7_takesOut 15 = .ok (.isub, 1) := by decide +kernel
theorem dX7_takesOut_16 : decode cX7_takesOut 16 = .ok (.iastore, 1) := by decide +kernel
theorem dX7_takesOut_17 : decode cX7_takesOut 17 = .ok (.bipush 9, 2) := by decide +kernel
theorem dX7_takesOut_19 : decode cX7_takesOut 19 = .ok (.iload_n 1, 1) := by decide +kernel
theorem dX7_takesOut_20 : decode cX7_takesOut 20 = .ok (.imul, 1) := by decide +kernel
theorem dX7_takesOut_21 : decode cX7_takesOut 21 = .ok (.istore_n 3, 1) := by decide +kernel
theorem dX7_takesOut_22 : decode cX7_takesOut 22 = .ok (.iload_n 3, 1) := by decide +kernel
theorem dX7_takesOut_23 : decode cX7_takesOut 23 = .ok (.bipush 9, 2) := by decide +kernel
theorem dX7_takesOut_25 : decode cX7_takesOut 25 = .ok (.aload_n 0, 1) := by decide +kernel
theorem dX7_takesOut_26 : decode cX7_takesOut 26 = .ok (.getfield 7, 3) := by decide +kernel
theorem dX7_takesOut_29 : decode cX7_takesOut 29 = .ok (.iconst 0, 1) := by decide +kernel
theorem dX7_takesOut_30 : decode cX7_takesOut 30 = .ok (.iaload, 1) := by decide +kernel
theorem dX7_takesOut_31 : decode cX7_takesOut 31 = .ok (.imul, 1) := by decide +kernel
theorem dX7_takesOut_32 : decode cX7_takesOut 32 = .ok (.if_icmp .ge 30, 3) := by decide +kernel
theorem dX7_takesOut_35 : decode cX7_takesOut 35 = .ok (.aload_n 0, 1) := by decide +kernel
theorem dX7_takesOut_36 : decode cX7_takesOut 36 = .ok (.getfield 7, 3) := by decide +kernel
theorem dX7_takesOut_39 : decode cX7_takesOut 39 = .ok (.bipush 72, 2) := by decide +kernel
theorem dX7_takesOut_41 : decode cX7_takesOut 41 = .ok (.iload_n 3, 1) := by decide +kernel
theorem dX7_takesOut_42 : decode cX7_takesOut 42 = .ok (.iadd, 1) := by decide +kernel
theorem dX7_takesOut_43 : decode cX7_takesOut 43 = .ok (.aload_n 0, 1) := by decide +kernel
theorem dX7_takesOut_44 : decode cX7_takesOut 44 = .ok (.getfield 7, 3) := by decide +kernel
theorem dX7_takesOut_47 : decode cX7_takesOut 47 = .ok (.bipush 72, 2) := by decide +kernel
theorem dX7_takesOut_49 : decode cX7_takesOut 49 = .ok (.iload_n 3, 1) := by decide +kernel
theorem dX7_takesOut_50 : decode cX7_takesOut 50 = .ok (.iadd, 1) := by decide +kernel
theorem dX7_takesOut_51 : decode cX7_takesOut 51 = .ok (.bipush 9, 2) := by decide +kernel
theorem dX7_takesOut_53 : decode cX7_takesOut 53 = .ok (.iadd, 1) := by decide +kernel
theorem dX7_takesOut_54 : decode cX7_takesOut 54 = .ok (.iaload, 1) := by decide +kernel
theorem dX7_takesOut_55 : decode cX7_takesOut 55 = .ok (.iastore, 1) := by decide +kernel
theorem dX7_takesOut_56 : decode cX7_takesOut 56 = .ok (.iinc 3 1, 3) := by decide +kernel
theorem dX7_takesOut_59 : decode cX7_takesOut 59 = .ok (.goto (-37), 3) := by decide +kernel
theorem dX7_takesOut_62 : decode cX7_takesOut 62 = .ok (.aload_n 0, 1) := by decide +kernel
theorem dX7_takesOut_63 : decode cX7_takesOut 63 = .ok (.iload_n 2, 1) := by decide +kernel
theorem dX7_takesOut_64 : decode cX7_takesOut 64 = .ok (.invokevirtual 52, 3) := by decide +kernel
theorem dX7_takesOut_67 : decode cX7_takesOut 67 = .ok (.return_, 1) := by decide +kernel
set_option maxRecDepth 20000 in
theorem ggX7_canMake_X7_placeOfName : GoodIn wsX7_canMake wsX7_placeOfName := goodIn_r _ [6, 1, 7, 8, 9, 10, 5, 11, 12, 13, 14, 15, 16, 17, 18, 19, 20, 21, 22, 23] (by decide +kernel) (by decide +kernel)
set_option maxRecDepth 20000 in
theorem gX7_canMake_X7_placeOfName : GoodIn wsX7_canMake (wsV RX7 55 RX7 yX7_placeOfName wsX7_placeOfName) := goodIn_app (goodIn_of _ (by decide +kernel)) ggX7_canMake_X7_placeOfName
theorem dX7_canMake_0 : decode cX7_canMake 0 = .ok (.aload_n 0, 1) := by decide +kernel
theorem dX7_canMake_1 : decode cX7_canMake 1 = .ok (.iload_n 1, 1) := by decide +kernel
theorem dX7_canMake_2 : decode cX7_canMake 2 = .ok (.iload_n 2, 1) := by decide +kernel
theorem dX7_canMake_3 : decode cX7_canMake 3 = .ok (.invokevirtual 55, 3) := by decide +kernel
theorem dX7_canMake_6 : decode cX7_canMake 6 = .ok (.bipush (-2), 2) := by decide +kernel
theorem dX7_canMake_8 : decode cX7_canMake 8 = .ok (.if_icmp .ne 19, 3) := by decide +kernel
theorem dX7_canMake_11 : decode cX7_canMake 11 = .ok (.aload_n 0, 1) := by decide +kernel
theorem dX7_canMake_12 : decode cX7_canMake 12 = .ok (.getfield 7, 3) := by decide +kernel
theorem dX7_canMake_15 : decode cX7_canMake 15 = .ok (.iconst 1, 1) := by decide +kernel
theorem dX7_canMake_16 : decode cX7_canMake 16 = .ok (.iaload, 1) := by decide +kernel
theorem dX7_canMake_17 : decode cX7_canMake 17 = .ok (.sipush 1000, 3) := by decide +kernel
theorem dX7_canMake_20 : decode cX7_canMake 20 = .ok (.if_icmp .ge 7, 3) := by decide +kernel
theorem dX7_canMake_23 : decode cX7_canMake 23 = .ok (.iconst 1, 1) := by decide +kernel
theorem dX7_canMake_24 : decode cX7_canMake 24 = .ok (.goto 4, 3) := by decide +kernel
theorem dX7_canMake_27 : decode cX7_canMake 27 = .ok (.iconst 0, 1) := by decide +kernel
theorem dX7_canMake_28 : decode cX7_canMake 28 = .ok (.ireturn, 1) := by decide +kernel
theorem dX7_copies_0 : decode cX7_copies 0 = .ok (.iconst 0, 1) := by decide +kernel
theorem dX7_copies_1 : decode cX7_copies 1 = .ok (.istore_n 3, 1) := by decide +kernel
theorem dX7_copies_2 : decode cX7_copies 2 = .ok (.iload_n 3, 1) := by decide +kernel
theorem dX7_copies_3 : decode cX7_copies 3 = .ok (.sipush 432, 3) := by decide +kernel
theorem dX7_copies_6 : decode cX7_copies 6 = .ok (.if_icmp .ge 33, 3) := by decide +kernel
theorem dX7_copies_9 : decode cX7_copies 9 = .ok (.aload_n 0, 1) := by decide +kernel
theorem dX7_copies_10 : decode cX7_copies 10 = .ok (.getfield 7, 3) := by decide +kernel
theorem dX7_copies_13 : decode cX7_copies 13 = .ok (.sipush 432, 3) := by decide +kernel
theorem dX7_copies_16 : decode cX7_copies 16 = .ok (.iload_n 2, 1) := by decide +kernel
theorem dX7_copies_17 : decode cX7_copies 17 = .ok (.imul, 1) := by decide +kernel
theorem dX7_copies_18 : decode cX7_copies 18 = .ok (.iload_n 3, 1) := by decide +kernel
theorem dX7_copies_19 : decode cX7_copies 19 = .ok (.iadd, 1) := by decide +kernel
theorem dX7_copies_20 : decode cX7_copies 20 = .ok (.aload_n 0, 1) := by decide +kernel
theorem dX7_copies_21 : decode cX7_copies 21 = .ok (.getfield 7, 3) := by decide +kernel
theorem dX7_copies_24 : decode cX7_copies 24 = .ok (.sipush 432, 3) := by decide +kernel
theorem dX7_copies_27 : decode cX7_copies 27 = .ok (.iload_n 1, 1) := by decide +kernel
theorem dX7_copies_28 : decode cX7_copies 28 = .ok (.imul, 1) := by decide +kernel
theorem dX7_copies_29 : decode cX7_copies 29 = .ok (.iload_n 3, 1) := by decide +kernel
theorem dX7_copies_30 : decode cX7_copies 30 = .ok (.iadd, 1) := by decide +kernel
theorem dX7_copies_31 : decode cX7_copies 31 = .ok (.iaload, 1) := by decide +kernel
theorem dX7_copies_32 : decode cX7_copies 32 = .ok (.iastore, 1) := by decide +kernel
theorem dX7_copies_33 : decode cX7_copies 33 = .ok (.iinc 3 1, 3) := by decide +kernel
theorem dX7_copies_36 : decode cX7_copies 36 = .ok (.goto (-34), 3) := by decide +kernel
theorem dX7_copies_39 : decode cX7_copies 39 = .ok (.return_, 1) := by decide +kernel
set_option maxRecDepth 20000 in
theorem ggX7_keeps_X7_copies : GoodIn wsX7_keeps wsX7_copies := goodIn_r _ [6, 7, 8, 9, 10, 11, 12, 13, 14, 15, 16, 17, 18, 19] (by decide +kernel) (by decide +kernel)
set_option maxRecDepth 20000 in
theorem gX7_keeps_X7_copies : GoodIn wsX7_keeps (wsV RX7 61 RX7 yX7_copies wsX7_copies) := goodIn_app (goodIn_of _ (by decide +kernel)) ggX7_keeps_X7_copies
theorem dX7_keeps_0 : decode cX7_keeps 0 = .ok (.iconst 1, 1) := by decide +kernel
theorem dX7_keeps_1 : decode cX7_keeps 1 = .ok (.istore_n 1, 1) := by decide +kernel
theorem dX7_keeps_2 : decode cX7_keeps 2 = .ok (.iload_n 1, 1) := by decide +kernel
theorem dX7_keeps_3 : decode cX7_keeps 3 = .ok (.bipush 6, 2) := by decide +kernel
theorem dX7_keeps_5 : decode cX7_keeps 5 = .ok (.if_icmp .ge 26, 3) := by decide +kernel
theorem dX7_keeps_8 : decode cX7_keeps 8 = .ok (.aload_n 0, 1) := by decide +kernel
theorem dX7_keeps_9 : decode cX7_keeps 9 = .ok (.getfield 58, 3) := by decide +kernel
theorem dX7_keeps_12 : decode cX7_keeps 12 = .ok (.bipush 6, 2) := by decide +kernel
theorem dX7_keeps_14 : decode cX7_keeps 14 = .ok (.if_icmp .ne 17, 3) := by decide +kernel
theorem dX7_keeps_17 : decode cX7_keeps 17 = .ok (.aload_n 0, 1) := by decide +kernel
theorem dX7_keeps_18 : decode cX7_keeps 18 = .ok (.iload_n 1, 1) := by decide +kernel
theorem dX7_keeps_19 : decode cX7_keeps 19 = .ok (.iconst 1, 1) := by decide +kernel
theorem dX7_keeps_20 : decode cX7_keeps 20 = .ok (.iadd, 1) := by decide +kernel
theorem dX7_keeps_21 : decode cX7_keeps 21 = .ok (.iload_n 1, 1) := by decide +kernel
theorem dX7_keeps_22 : decode cX7_keeps 22 = .ok (.invokevirtual 61, 3) := by decide +kernel
theorem dX7_keeps_25 : decode cX7_keeps 25 = .ok (.iinc 1 1, 3) := by decide +kernel
theorem dX7_keeps_28 : decode cX7_keeps 28 = .ok (.goto (-26), 3) := by decide +kernel
theorem dX7_keeps_31 : decode cX7_keeps 31 = .ok (.aload_n 0, 1) := by decide +kernel
theorem dX7_keeps_32 : decode cX7_keeps 32 = .ok (.dup, 1) := by decide +kernel
theorem dX7_keeps_33 : decode cX7_keeps 33 = .ok (.getfield 58, 3) := by decide +kernel
theorem dX7_keeps_36 : decode cX7_keeps 36 = .ok (.aload_n 0, 1) := by decide +kernel
theorem dX7_keeps_37 : decode cX7_keeps 37 = .ok (.getfield 58, 3) := by decide +kernel
theorem dX7_keeps_40 : decode cX7_keeps 40 = .ok (.bipush 6, 2) := by decide +kernel
theorem dX7_keeps_42 : decode cX7_keeps 42 = .ok (.if_icmp .ge 7, 3) := by decide +kernel
theorem dX7_keeps_45 : decode cX7_keeps 45 = .ok (.iconst 1, 1) := by decide +kernel
theorem dX7_keeps_46 : decode cX7_keeps 46 = .ok (.goto 4, 3) := by decide +kernel
theorem dX7_keeps_49 : decode cX7_keeps 49 = .ok (.iconst 0, 1) := by decide +kernel
theorem dX7_keeps_50 : decode cX7_keeps 50 = .ok (.iadd, 1) := by decide +kernel
theorem dX7_keeps_51 : decode cX7_keeps 51 = .ok (.putfield 58, 3) := by decide +kernel
theorem dX7_keeps_54 : decode cX7_keeps 54 = .ok (.aload_n 0, 1) := by decide +kernel
theorem dX7_keeps_55 : decode cX7_keeps 55 = .ok (.iconst 0, 1) := by decide +kernel
theorem dX7_keeps_56 : decode cX7_keeps 56 = .ok (.aload_n 0, 1) := by decide +kernel
theorem dX7_keeps_57 : decode cX7_keeps 57 = .ok (.getfield 58, 3) := by decide +kernel
theorem dX7_keeps_60 : decode cX7_keeps 60 = .ok (.invokevirtual 61, 3) := by decide +kernel
theorem dX7_keeps_63 : decode cX7_keeps 63 = .ok (.return_, 1) := by decide +kernel
set_option maxRecDepth 20000 in
theorem ggX7_isName_X7_in : GoodIn wsX7_isName wsX7_in := goodIn_r _ [6] (by decide +kernel) (by decide +kernel)
set_option maxRecDepth 20000 in
theorem gX7_isName_X7_in : GoodIn wsX7_isName (va_wsS RX7 68 yX7_in wsX7_in) := goodIn_app (goodIn_of _ (by decide +kernel)) ggX7_isName_X7_in
