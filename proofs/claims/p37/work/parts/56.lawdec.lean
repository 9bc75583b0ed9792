theorem dL_types_0 : decode cL_types 0 = .ok (.aload_n 0, 1) := by decide +kernel
theorem dL_types_1 : decode cL_types 1 = .ok (.invokevirtual 44, 3) := by decide +kernel
theorem dL_types_4 : decode cL_types 4 = .ok (.istore_n 2, 1) := by decide +kernel
theorem dL_types_5 : decode cL_types 5 = .ok (.iload_n 2, 1) := by decide +kernel
theorem dL_types_6 : decode cL_types 6 = .ok (.ifCond .ge 7, 3) := by decide +kernel
theorem dL_types_9 : decode cL_types 9 = .ok (.iload_n 2, 1) := by decide +kernel
theorem dL_types_10 : decode cL_types 10 = .ok (.goto 27, 3) := by decide +kernel
theorem dL_types_13 : decode cL_types 13 = .ok (.aload_n 0, 1) := by decide +kernel
theorem dL_types_14 : decode cL_types 14 = .ok (.bipush 97, 2) := by decide +kernel
theorem dL_types_16 : decode cL_types 16 = .ok (.iload_n 1, 1) := by decide +kernel
theorem dL_types_17 : decode cL_types 17 = .ok (.iconst 5, 1) := by decide +kernel
theorem dL_types_18 : decode cL_types 18 = .ok (.irem, 1) := by decide +kernel
theorem dL_types_19 : decode cL_types 19 = .ok (.iadd, 1) := by decide +kernel
theorem dL_types_20 : decode cL_types 20 = .ok (.invokevirtual 47, 3) := by decide +kernel
theorem dL_types_23 : decode cL_types 23 = .ok (.aload_n 0, 1) := by decide +kernel
theorem dL_types_24 : decode cL_types 24 = .ok (.bipush 97, 2) := by decide +kernel
theorem dL_types_26 : decode cL_types 26 = .ok (.iload_n 1, 1) := by decide +kernel
theorem dL_types_27 : decode cL_types 27 = .ok (.iconst 5, 1) := by decide +kernel
theorem dL_types_28 : decode cL_types 28 = .ok (.idiv, 1) := by decide +kernel
theorem dL_types_29 : decode cL_types 29 = .ok (.bipush 20, 2) := by decide +kernel
theorem dL_types_31 : decode cL_types 31 = .ok (.irem, 1) := by decide +kernel
theorem dL_types_32 : decode cL_types 32 = .ok (.iadd, 1) := by decide +kernel
theorem dL_types_33 : decode cL_types 33 = .ok (.invokevirtual 47, 3) := by decide +kernel
theorem dL_types_36 : decode cL_types 36 = .ok (.iadd, 1) := by decide +kernel
theorem dL_types_37 : decode cL_types 37 = .ok (.ireturn, 1) := by decide +kernel
set_option maxRecDepth 20000 in
theorem ggL_act_L_up : GoodIn wsL_act wsL_up := goodIn_r _ [5, 6] (by decide +kernel) (by decide +kernel)
set_option maxRecDepth 20000 in
theorem gL_act_L_up : GoodIn wsL_act (va_wsS RL 50 yL_up wsL_up) := goodIn_app (goodIn_of _ (by decide +kernel)) ggL_act_L_up
set_option maxRecDepth 20000 in
theorem ggL_act_L_types : GoodIn wsL_act wsL_types := goodIn_ca (goodIn_ca (goodIn_r _ [9, 10, 11, 12, 13, 14, 15, 16, 17, 18, 19, 20, 21, 22, 23, 24, 25, 26, 27, 28, 29, 30, 31, 32, 33, 34, 35, 280, 281, 282, 283, 284, 285, 286] (by decide +kernel) (by decide +kernel)) (goodIn_sub (fun _ h => List.mem_cons_of_mem _ (List.mem_append_left _ (List.mem_append_left _ (List.mem_append_right _ h)))) (by decide +kernel))) (goodIn_sub (fun _ h => List.mem_cons_of_mem _ (List.mem_append_left _ (List.mem_append_right _ h))) (by decide +kernel))
set_option maxRecDepth 20000 in
theorem gL_act_L_types : GoodIn wsL_act (va_wsS RL 55 yL_types wsL_types) := goodIn_app (goodIn_of _ (by decide +kernel)) ggL_act_L_types
set_option maxRecDepth 20000 in
theorem ggL_act_X6_find : GoodIn wsL_act wsX6_find := goodIn_ca (goodIn_r _ [39, 40, 41, 42, 43, 44, 13, 45, 27, 28, 15, 16, 46, 47, 48, 20, 49, 35, 50, 51, 52, 53, 54, 55, 56, 57, 58, 59, 60, 61, 62, 63, 64, 65, 66, 67, 68, 69, 70, 71, 280, 281, 282, 283, 284, 287, 288, 289, 290, 285, 286, 291, 292, 293] (by decide +kernel) (by decide +kernel)) (goodIn_sub (fun _ h => List.mem_cons_of_mem _ (List.mem_append_left _ (List.mem_append_left _ (List.mem_append_right _ h)))) (by decide +kernel))
set_option maxRecDepth 20000 in
theorem gL_act_X6_find : GoodIn wsL_act (wsV RL 59 RX6 yX6_find wsX6_find) := goodIn_app (goodIn_of _ (by decide +kernel)) ggL_act_X6_find
set_option maxRecDepth 20000 in
theorem ggL_act_X6_entries : GoodIn wsL_act wsX6_entries := goodIn_r _ [75, 40, 41, 76, 280, 281, 282, 283, 284, 287, 288, 289, 290, 291, 292, 293] (by decide +kernel) (by decide +kernel)
set_option maxRecDepth 20000 in
theorem gL_act_X6_entries : GoodIn wsL_act (wsV RL 20 RX6 yX6_entries wsX6_entries) := goodIn_app (goodIn_of _ (by decide +kernel)) ggL_act_X6_entries
set_option maxRecDepth 20000 in
theorem ggL_act_X6_open : GoodIn wsL_act wsX6_open := goodIn_ca (goodIn_r _ [80, 81, 40, 82, 83, 84, 13, 85, 86, 87, 88, 89, 90, 91, 92, 93, 94, 95, 96, 97, 98, 99, 100, 101, 102, 103, 104, 105, 106, 107, 108, 109, 110, 111, 63, 112, 71, 113, 66, 65, 114, 115, 116, 117, 118, 119, 120, 121, 122, 123, 124, 125, 126, 127, 128, 129, 130, 280, 281, 282, 283, 284, 287, 288, 289, 290, 294, 295, 296, 291, 292, 293, 297, 298, 299] (by decide +kernel) (by decide +kernel)) (goodIn_sub (fun _ h => List.mem_cons_of_mem _ (List.mem_append_right _ h)) (by decide +kernel))
set_option maxRecDepth 20000 in
theorem gL_act_X6_open : GoodIn wsL_act (wsV RL 62 RX6 yX6_open wsX6_open) := goodIn_app (goodIn_of _ (by decide +kernel)) ggL_act_X6_open
set_option maxRecDepth 20000 in
theorem ggL_act_X6_idAt : GoodIn wsL_act wsX6_idAt := goodIn_ca (goodIn_r _ [134, 86, 87, 40, 41, 76, 67, 68, 69, 63, 70, 71, 280, 281, 282, 283, 284, 287, 288, 289, 290, 291, 292, 293] (by decide +kernel) (by decide +kernel)) (goodIn_sub (fun _ h => List.mem_cons_of_mem _ (List.mem_append_right _ h)) (by decide +kernel))
set_option maxRecDepth 20000 in
theorem gL_act_X6_idAt : GoodIn wsL_act (wsV RL 23 RX6 yX6_idAt wsX6_idAt) := goodIn_app (goodIn_of _ (by decide +kernel)) ggL_act_X6_idAt
set_option maxRecDepth 20000 in
theorem ggL_act_X6_remove : GoodIn wsL_act wsX6_remove := goodIn_ca (goodIn_r _ [138, 81, 40, 41, 76, 139, 140, 141, 13, 142, 86, 87, 143, 144, 145, 63, 146, 65, 147, 68, 69, 70, 71, 88, 89, 90, 91, 92, 93, 94, 95, 96, 97, 98, 99, 100, 101, 102, 103, 104, 105, 106, 107, 108, 109, 110, 111, 112, 113, 66, 114, 115, 116, 117, 118, 119, 120, 121, 122, 148, 149, 150, 151, 152, 153, 154, 155, 156, 157, 158, 159, 160, 161, 162, 163, 164, 165, 166, 167, 168, 169, 170, 171, 172, 173, 174, 175, 176, 177, 178, 179, 180, 181, 182, 183, 184, 185, 186, 280, 281, 282, 283, 284, 287, 288, 289, 290, 291, 292, 293, 294, 295, 296, 297, 298, 299] (by decide +kernel) (by decide +kernel)) (goodIn_sub (fun _ h => List.mem_cons_of_mem _ (List.mem_append_right _ h)) (by decide +kernel))
set_option maxRecDepth 20000 in
theorem gL_act_X6_remove : GoodIn wsL_act (wsV RL 65 RX6 yX6_remove wsX6_remove) := goodIn_app (goodIn_of _ (by decide +kernel)) ggL_act_X6_remove
set_option maxRecDepth 20000 in
theorem ggL_act_X6_rename : GoodIn wsL_act wsX6_rename := goodIn_ca (goodIn_ca (goodIn_ca (goodIn_r _ [190, 29, 30, 40, 81, 15, 139, 140, 141, 13, 142, 86, 87, 41, 143, 144, 145, 63, 146, 65, 147, 68, 69, 70, 71, 42, 43, 44, 45, 27, 28, 16, 46, 47, 48, 20, 49, 35, 50, 51, 52, 53, 54, 55, 56, 57, 58, 59, 191, 192, 193, 99, 194, 108, 101, 195, 61, 62, 64, 66, 88, 89, 90, 91, 92, 93, 94, 95, 96, 97, 98, 100, 102, 103, 104, 105, 106, 107, 109, 110, 111, 112, 113, 114, 115, 116, 117, 118, 119, 120, 121, 122, 17, 18, 19, 21, 22, 148, 149, 150, 151, 152, 153, 154, 155, 156, 157, 158, 159, 160, 161, 162, 163, 164, 165, 166, 167, 168, 169, 170, 171, 172, 173, 174, 175, 176, 177, 178, 179, 180, 181, 182, 183, 184, 185, 186, 196, 197, 198, 199, 200, 201, 202, 203, 204, 205, 206, 207, 208, 209, 210, 211, 212, 213, 280, 281, 282, 283, 284, 287, 288, 289, 290, 291, 292, 293, 285, 286, 294, 295, 296, 297, 298, 299] (by decide +kernel) (by decide +kernel)) (goodIn_sub (fun _ h => List.mem_cons_of_mem _ (List.mem_append_left _ (List.mem_append_right _ h))) (by decide +kernel))) (goodIn_sub (fun _ h => List.mem_cons_of_mem _ (List.mem_append_right _ h)) (by decide +kernel))) (goodIn_sub (fun _ h => List.mem_cons_of_mem _ (List.mem_append_left _ (List.mem_append_left _ (List.mem_append_right _ h)))) (by decide +kernel))
set_option maxRecDepth 20000 in
theorem gL_act_X6_rename : GoodIn wsL_act (wsV RL 68 RX6 yX6_rename wsX6_rename) := goodIn_app (goodIn_of _ (by decide +kernel)) ggL_act_X6_rename
set_option maxRecDepth 20000 in
theorem ggL_act_X6_position : GoodIn wsL_act wsX6_position := goodIn_ca (goodIn_r _ [217, 40, 82, 83, 84, 13, 85, 86, 87, 280, 281, 282, 283, 284, 287, 288, 289, 290] (by decide +kernel) (by decide +kernel)) (goodIn_sub (fun _ h => List.mem_cons_of_mem _ (List.mem_append_right _ h)) (by decide +kernel))
set_option maxRecDepth 20000 in
theorem gL_act_X6_position : GoodIn wsL_act (wsV RL 41 RX6 yX6_position wsX6_position) := goodIn_app (goodIn_of _ (by decide +kernel)) ggL_act_X6_position
set_option maxRecDepth 20000 in
theorem ggL_act_X6_seek : GoodIn wsL_act wsX6_seek := goodIn_ca (goodIn_ca (goodIn_ca (goodIn_r _ [221, 27, 28, 222, 81, 40, 82, 83, 84, 13, 85, 86, 87, 223, 224, 225, 226, 29, 30, 227, 128, 129, 99, 130, 103, 88, 89, 90, 91, 92, 93, 94, 95, 96, 97, 98, 100, 101, 102, 104, 105, 106, 107, 108, 109, 110, 111, 63, 112, 71, 113, 66, 65, 114, 115, 116, 117, 118, 119, 120, 121, 122, 280, 281, 282, 283, 284, 287, 288, 289, 290, 294, 295, 296, 291, 292, 293, 297, 298, 299] (by decide +kernel) (by decide +kernel)) (goodIn_sub (fun _ h => List.mem_cons_of_mem _ (List.mem_append_left _ (List.mem_append_left _ (List.mem_append_right _ h)))) (by decide +kernel))) (goodIn_sub (fun _ h => List.mem_cons_of_mem _ (List.mem_append_right _ h)) (by decide +kernel))) (goodIn_sub (fun _ h => List.mem_cons_of_mem _ (List.mem_append_left _ (List.mem_append_right _ h))) (by decide +kernel))
set_option maxRecDepth 20000 in
theorem gL_act_X6_seek : GoodIn wsL_act (wsV RL 72 RX6 yX6_seek wsX6_seek) := goodIn_app (goodIn_of _ (by decide +kernel)) ggL_act_X6_seek
set_option maxRecDepth 20000 in
theorem ggL_act_X6_readLeaf : GoodIn wsL_act wsX6_readLeaf := goodIn_ca (goodIn_ca (goodIn_r _ [231, 81, 40, 82, 41, 232, 83, 84, 13, 85, 86, 87, 223, 224, 225, 226, 29, 30, 227, 128, 129, 99, 130, 103, 88, 89, 90, 91, 92, 93, 94, 95, 96, 97, 98, 100, 101, 102, 104, 105, 106, 107, 108, 109, 110, 111, 63, 112, 71, 113, 66, 65, 114, 115, 116, 117, 118, 119, 120, 121, 122, 233, 234, 235, 236, 237, 178, 179, 180, 238, 239, 240, 241, 242, 243, 152, 153, 154, 155, 244, 175, 176, 280, 281, 282, 283, 284, 287, 288, 289, 290, 291, 292, 293, 294, 295, 296, 297, 298, 299] (by decide +kernel) (by decide +kernel)) (goodIn_sub (fun _ h => List.mem_cons_of_mem _ (List.mem_append_right _ h)) (by decide +kernel))) (goodIn_sub (fun _ h => List.mem_cons_of_mem _ (List.mem_append_left _ (List.mem_append_right _ h))) (by decide +kernel))
set_option maxRecDepth 20000 in
theorem gL_act_X6_readLeaf : GoodIn wsL_act (wsV RL 75 RX6 yX6_readLeaf wsX6_readLeaf) := goodIn_app (goodIn_of _ (by decide +kernel)) ggL_act_X6_readLeaf
set_option maxRecDepth 20000 in
theorem ggL_act_X6_next : GoodIn wsL_act wsX6_next := goodIn_ca (goodIn_ca (goodIn_r _ [248, 81, 40, 41, 76, 82, 232, 83, 84, 13, 85, 86, 87, 223, 224, 225, 226, 29, 30, 227, 128, 129, 99, 130, 103, 88, 89, 90, 91, 92, 93, 94, 95, 96, 97, 98, 100, 101, 102, 104, 105, 106, 107, 108, 109, 110, 111, 63, 112, 71, 113, 66, 65, 114, 115, 116, 117, 118, 119, 120, 121, 122, 233, 234, 235, 236, 237, 178, 179, 180, 67, 68, 69, 70, 280, 281, 282, 283, 284, 287, 288, 289, 290, 291, 292, 293, 294, 295, 296, 297, 298, 299] (by decide +kernel) (by decide +kernel)) (goodIn_sub (fun _ h => List.mem_cons_of_mem _ (List.mem_append_right _ h)) (by decide +kernel))) (goodIn_sub (fun _ h => List.mem_cons_of_mem _ (List.mem_append_left _ (List.mem_append_right _ h))) (by decide +kernel))
set_option maxRecDepth 20000 in
theorem gL_act_X6_next : GoodIn wsL_act (wsV RL 78 RX6 yX6_next wsX6_next) := goodIn_app (goodIn_of _ (by decide +kernel)) ggL_act_X6_next
set_option maxRecDepth 20000 in
theorem ggL_act_X6_close : GoodIn wsL_act wsX6_close := goodIn_ca (goodIn_ca (goodIn_r _ [252, 81, 40, 82, 83, 84, 13, 85, 86, 87, 223, 224, 225, 226, 29, 30, 227, 128, 129, 99, 130, 103, 88, 89, 90, 91, 92, 93, 94, 95, 96, 97, 98, 100, 101, 102, 104, 105, 106, 107, 108, 109, 110, 111, 63, 112, 71, 113, 66, 65, 114, 115, 116, 117, 118, 119, 120, 121, 122, 280, 281, 282, 283, 284, 287, 288, 289, 290, 294, 295, 296, 291, 292, 293, 297, 298, 299] (by decide +kernel) (by decide +kernel)) (goodIn_sub (fun _ h => List.mem_cons_of_mem _ (List.mem_append_right _ h)) (by decide +kernel))) (goodIn_sub (fun _ h => List.mem_cons_of_mem _ (List.mem_append_left _ (List.mem_append_right _ h))) (by decide +kernel))
set_option maxRecDepth 20000 in
theorem gL_act_X6_close : GoodIn wsL_act (wsV RL 81 RX6 yX6_close wsX6_close) := goodIn_app (goodIn_of _ (by decide +kernel)) ggL_act_X6_close
set_option maxRecDepth 20000 in
theorem ggL_act_X6_restore : GoodIn wsL_act wsX6_restore := goodIn_ca (goodIn_ca (goodIn_r _ [256, 29, 30, 257, 81, 40, 258, 41, 76, 259, 260, 13, 261, 86, 87, 88, 89, 90, 91, 92, 93, 94, 95, 96, 97, 98, 99, 100, 101, 102, 103, 104, 105, 106, 107, 108, 109, 110, 111, 63, 112, 71, 113, 66, 65, 114, 115, 116, 117, 118, 119, 120, 121, 122, 262, 280, 281, 282, 283, 284, 287, 288, 289, 290, 291, 292, 293, 294, 295, 296, 297, 298, 299] (by decide +kernel) (by decide +kernel)) (goodIn_sub (fun _ h => List.mem_cons_of_mem _ (List.mem_append_left _ (List.mem_append_right _ h))) (by decide +kernel))) (goodIn_sub (fun _ h => List.mem_cons_of_mem _ (List.mem_append_right _ h)) (by decide +kernel))
set_option maxRecDepth 20000 in
theorem gL_act_X6_restore : GoodIn wsL_act (wsV RL 84 RX6 yX6_restore wsX6_restore) := goodIn_app (goodIn_of _ (by decide +kernel)) ggL_act_X6_restore
set_option maxRecDepth 20000 in
theorem ggL_act_X6_add : GoodIn wsL_act wsX6_add := goodIn_ca (goodIn_ca (goodIn_r _ [266, 81, 40, 15, 42, 43, 44, 13, 45, 27, 28, 16, 46, 47, 48, 20, 49, 35, 50, 51, 52, 53, 54, 55, 56, 57, 58, 59, 267, 268, 269, 270, 29, 30, 271, 272, 273, 99, 274, 101, 275, 276, 277, 63, 278, 65, 279, 192, 193, 194, 108, 195, 61, 62, 64, 66, 88, 89, 90, 91, 92, 93, 94, 95, 96, 97, 98, 100, 102, 103, 104, 105, 106, 107, 109, 110, 111, 112, 71, 113, 114, 115, 116, 117, 118, 119, 120, 121, 122, 17, 18, 19, 21, 22, 196, 197, 198, 199, 200, 201, 202, 203, 204, 205, 206, 207, 208, 209, 177, 178, 179, 180, 210, 211, 212, 213, 167, 168, 169, 170, 171, 172, 173, 174, 175, 176, 181, 182, 183, 184, 185, 186, 280, 281, 282, 283, 284, 285, 286, 287, 288, 289, 290, 291, 292, 293, 294, 295, 296, 297, 298, 299] (by decide +kernel) (by decide +kernel)) (goodIn_sub (fun _ h => List.mem_cons_of_mem _ (List.mem_append_left _ (List.mem_append_left _ (List.mem_append_right _ h)))) (by decide +kernel))) (goodIn_sub (fun _ h => List.mem_cons_of_mem _ (List.mem_append_left _ (List.mem_append_right _ h))) (by decide +kernel))
set_option maxRecDepth 20000 in
theorem gL_act_X6_add : GoodIn wsL_act (wsV RL 87 RX6 yX6_add wsX6_add) := goodIn_app (goodIn_of _ (by decide +kernel)) ggL_act_X6_add
theorem dL_act_0 : decode cL_act 0 = .ok (.iload_n 2, 1) := by decide +kernel
theorem dL_act_1 : decode cL_act 1 = .ok (.iconst 4, 1) := by decide +kernel
theorem dL_act_2 : decode cL_act 2 = .ok (.invokestatic 50, 3) := by decide +kernel
theorem dL_act_5 : decode cL_act 5 = .ok (.istore_n 3, 1) := by decide +kernel
theorem dL_act_6 : decode cL_act 6 = .ok (.aload_n 0, 1) := by decide +kernel
theorem dL_act_7 : decode cL_act 7 = .ok (.iload_n 2, 1) := by decide +kernel
theorem dL_act_8 : decode cL_act 8 = .ok (.iconst 2, 1) := by decide +kernel
theorem dL_act_9 : decode cL_act 9 = .ok (.ishr, 1) := by decide +kernel
theorem dL_act_10 : decode cL_act 10 = .ok (.bipush 100, 2) := by decide +kernel
theorem dL_act_12 : decode cL_act 12 = .ok (.invokestatic 50, 3) := by decide +kernel
theorem dL_act_15 : decode cL_act 15 = .ok (.invokestatic 55, 3) := by decide +kernel
theorem dL_act_18 : decode cL_act 18 = .ok (.istore 4, 2) := by decide +kernel
theorem dL_act_20 : decode cL_act 20 = .ok (.aload_n 0, 1) := by decide +kernel
theorem dL_act_21 : decode cL_act 21 = .ok (.invokevirtual 59, 3) := by decide +kernel
theorem dL_act_24 : decode cL_act 24 = .ok (.istore 5, 2) := by decide +kernel
theorem dL_act_26 : decode cL_act 26 = .ok (.iload_n 1, 1) := by decide +kernel
theorem dL_act_27 : decode cL_act 27 = .ok (.bipush 16, 2) := by decide +kernel
theorem dL_act_29 : decode cL_act 29 = .ok (.invokestatic 50, 3) := by decide +kernel
theorem dL_act_32 : decode cL_act 32 = .ok (.tableswitch 290 0 10 #[60, 60, 95, 135, 141, 177, 201, 201, 201, 227, 269], 60) := by decide +kernel
theorem dL_act_92 : decode cL_act 92 = .ok (.aload_n 0, 1) := by decide +kernel
theorem dL_act_93 : decode cL_act 93 = .ok (.invokevirtual 20, 3) := by decide +kernel
theorem dL_act_96 : decode cL_act 96 = .ok (.ifCond .ne 11, 3) := by decide +kernel
theorem dL_act_99 : decode cL_act 99 = .ok (.aload_n 0, 1) := by decide +kernel
theorem dL_act_100 : decode cL_act 100 = .ok (.iload_n 3, 1) := by decide +kernel
theorem dL_act_101 : decode cL_act 101 = .ok (.invokevirtual 62, 3) := by decide +kernel
theorem dL_act_104 : decode cL_act 104 = .ok (.goto 22, 3) := by decide +kernel
theorem dL_act_107 : decode cL_act 107 = .ok (.aload_n 0, 1) := by decide +kernel
theorem dL_act_108 : decode cL_act 108 = .ok (.aload_n 0, 1) := by decide +kernel
theorem dL_act_109 : decode cL_act 109 = .ok (.iload_n 2, 1) := by decide +kernel
theorem dL_act_110 : decode cL_act 110 = .ok (.bipush 9, 2) := by decide +kernel
theorem dL_act_112 : decode cL_act 112 = .ok (.ishr, 1) := by decide +kernel
theorem dL_act_113 : decode cL_act 113 = .ok (.aload_n 0, 1) := by decide +kernel
theorem dL_act_114 : decode cL_act 114 = .ok (.invokevirtual 20, 3) := by decide +kernel
theorem dL_act_117 : decode cL_act 117 = .ok (.invokestatic 50, 3) := by decide +kernel
theorem dL_act_120 : decode cL_act 120 = .ok (.invokevirtual 23, 3) := by decide +kernel
theorem dL_act_123 : decode cL_act 123 = .ok (.invokevirtual 65, 3) := by decide +kernel
theorem dL_act_126 : decode cL_act 126 = .ok (.ireturn, 1) := by decide +kernel
theorem dL_act_127 : decode cL_act 127 = .ok (.aload_n 0, 1) := by decide +kernel
theorem dL_act_128 : decode cL_act 128 = .ok (.invokevirtual 20, 3) := by decide +kernel
theorem dL_act_131 : decode cL_act 131 = .ok (.ifCond .eq 8, 3) := by decide +kernel
theorem dL_act_134 : decode cL_act 134 = .ok (.iload 5, 2) := by decide +kernel
theorem dL_act_136 : decode cL_act 136 = .ok (.ifCond .lt 11, 3) := by decide +kernel
theorem dL_act_139 : decode cL_act 139 = .ok (.aload_n 0, 1) := by decide +kernel
theorem dL_act_140 : decode cL_act 140 = .ok (.iload_n 3, 1) := by decide +kernel
theorem dL_act_141 : decode cL_act 141 = .ok (.invokevirtual 62, 3) := by decide +kernel
theorem dL_act_144 : decode cL_act 144 = .ok (.goto 22, 3) := by decide +kernel
theorem dL_act_147 : decode cL_act 147 = .ok (.aload_n 0, 1) := by decide +kernel
theorem dL_act_148 : decode cL_act 148 = .ok (.aload_n 0, 1) := by decide +kernel
theorem dL_act_149 : decode cL_act 149 = .ok (.iload_n 2, 1) := by decide +kernel
theorem dL_act_150 : decode cL_act 150 = .ok (.bipush 9, 2) := by decide +kernel
theorem dL_act_152 : decode cL_act 152 = .ok (.ishr, 1) := by decide +kernel
theorem dL_act_153 : decode cL_act 153 = .ok (.aload_n 0, 1) := by decide +kernel
theorem dL_act_154 : decode cL_act 154 = .ok (.invokevirtual 20, 3) := by decide +kernel
theorem dL_act_157 : decode cL_act 157 = .ok (.invokestatic 50, 3) := by decide +kernel
theorem dL_act_160 : decode cL_act 160 = .ok (.invokevirtual 23, 3) := by decide +kernel
theorem dL_act_163 : decode cL_act 163 = .ok (.invokevirtual 68, 3) := by decide +kernel
theorem dL_act_166 : decode cL_act 166 = .ok (.ireturn, 1) := by decide +kernel
theorem dL_act_167 : decode cL_act 167 = .ok (.aload_n 0, 1) := by decide +kernel
theorem dL_act_168 : decode cL_act 168 = .ok (.iload_n 3, 1) := by decide +kernel
theorem dL_act_169 : decode cL_act 169 = .ok (.invokevirtual 62, 3) := by decide +kernel
theorem dL_act_172 : decode cL_act 172 = .ok (.ireturn, 1) := by decide +kernel
theorem dL_act_173 : decode cL_act 173 = .ok (.aload_n 0, 1) := by decide +kernel
theorem dL_act_174 : decode cL_act 174 = .ok (.iload_n 3, 1) := by decide +kernel
theorem dL_act_175 : decode cL_act 175 = .ok (.invokevirtual 41, 3) := by decide +kernel
theorem dL_act_178 : decode cL_act 178 = .ok (.bipush (-2), 2) := by decide +kernel
theorem dL_act_180 : decode cL_act 180 = .ok (.if_icmp .ne 11, 3) := by decide +kernel
theorem dL_act_183 : decode cL_act 183 = .ok (.aload_n 0, 1) := by decide +kernel
theorem dL_act_184 : decode cL_act 184 = .ok (.iload_n 3, 1) := by decide +kernel
theorem dL_act_185 : decode cL_act 185 = .ok (.invokevirtual 62, 3) := by decide +kernel
theorem dL_act_188 : decode cL_act 188 = .ok (.goto 20, 3) := by decide +kernel
theorem dL_act_191 : decode cL_act 191 = .ok (.iconst 1, 1) := by decide +kernel
theorem dL_act_192 : decode cL_act 192 = .ok (.aload_n 0, 1) := by decide +kernel
theorem dL_act_193 : decode cL_act 193 = .ok (.iload_n 3, 1) := by decide +kernel
theorem dL_act_194 : decode cL_act 194 = .ok (.iload_n 2, 1) := by decide +kernel
theorem dL_act_195 : decode cL_act 195 = .ok (.iconst 4, 1) := by decide +kernel
theorem dL_act_196 : decode cL_act 196 = .ok (.ishr, 1) := by decide +kernel
theorem dL_act_197 : decode cL_act 197 = .ok (.ldc 71, 2) := by decide +kernel
theorem dL_act_199 : decode cL_act 199 = .ok (.invokestatic 50, 3) := by decide +kernel
theorem dL_act_202 : decode cL_act 202 = .ok (.iconst 1, 1) := by decide +kernel
theorem dL_act_203 : decode cL_act 203 = .ok (.isub, 1) := by decide +kernel
theorem dL_act_204 : decode cL_act 204 = .ok (.invokevirtual 72, 3) := by decide +kernel
theorem dL_act_207 : decode cL_act 207 = .ok (.iadd, 1) := by decide +kernel
theorem dL_act_208 : decode cL_act 208 = .ok (.ireturn, 1) := by decide +kernel
theorem dL_act_209 : decode cL_act 209 = .ok (.aload_n 0, 1) := by decide +kernel
theorem dL_act_210 : decode cL_act 210 = .ok (.iload_n 3, 1) := by decide +kernel
theorem dL_act_211 : decode cL_act 211 = .ok (.invokevirtual 41, 3) := by decide +kernel
theorem dL_act_214 : decode cL_act 214 = .ok (.bipush (-2), 2) := by decide +kernel
theorem dL_act_216 : decode cL_act 216 = .ok (.if_icmp .ne 11, 3) := by decide +kernel
theorem dL_act_219 : decode cL_act 219 = .ok (.aload_n 0, 1) := by decide +kernel
theorem dL_act_220 : decode cL_act 220 = .ok (.iload_n 3, 1) := by decide +kernel
theorem dL_act_221 : decode cL_act 221 = .ok (.invokevirtual 62, 3) := by decide +kernel
theorem dL_act_224 : decode cL_act 224 = .ok (.goto 8, 3) := by decide +kernel
theorem dL_act_227 : decode cL_act 227 = .ok (.aload_n 0, 1) := by decide +kernel
theorem dL_act_228 : decode cL_act 228 = .ok (.iload_n 3, 1) := by decide +kernel
theorem dL_act_229 : decode cL_act 229 = .ok (.invokevirtual 75, 3) := by decide +kernel
theorem dL_act_232 : decode cL_act 232 = .ok (.ireturn, 1) := by decide +kernel
theorem dL_act_233 : decode cL_act 233 = .ok (.aload_n 0, 1) := by decide +kernel
theorem dL_act_234 : decode cL_act 234 = .ok (.iload_n 3, 1) := by decide +kernel
theorem dL_act_235 : decode cL_act 235 = .ok (.invokevirtual 41, 3) := by decide +kernel
theorem dL_act_238 : decode cL_act 238 = .ok (.bipush (-2), 2) := by decide +kernel
theorem dL_act_240 : decode cL_act 240 = .ok (.if_icmp .ne 11, 3) := by decide +kernel
theorem dL_act_243 : decode cL_act 243 = .ok (.aload_n 0, 1) := by decide +kernel
theorem dL_act_244 : decode cL_act 244 = .ok (.iload_n 3, 1) := by decide +kernel
theorem dL_act_245 : decode cL_act 245 = .ok (.invokevirtual 62, 3) := by decide +kernel
theorem dL_act_248 : decode cL_act 248 = .ok (.goto 10, 3) := by decide +kernel
theorem dL_act_251 : decode cL_act 251 = .ok (.iconst 2, 1) := by decide +kernel
theorem dL_act_252 : decode cL_act 252 = .ok (.aload_n 0, 1) := by decide +kernel
theorem dL_act_253 : decode cL_act 253 = .ok (.iload_n 3, 1) := by decide +kernel
theorem dL_act_254 : decode cL_act 254 = .ok (.invokevirtual 78, 3) := by decide +kernel
theorem dL_act_257 : decode cL_act 257 = .ok (.iadd, 1) := by decide +kernel
theorem dL_act_258 : decode cL_act 258 = .ok (.ireturn, 1) := by decide +kernel
theorem dL_act_259 : decode cL_act 259 = .ok (.aload_n 0, 1) := by decide +kernel
theorem dL_act_260 : decode cL_act 260 = .ok (.iload_n 3, 1) := by decide +kernel
theorem dL_act_261 : decode cL_act 261 = .ok (.invokevirtual 41, 3) := by decide +kernel
theorem dL_act_264 : decode cL_act 264 = .ok (.bipush (-2), 2) := by decide +kernel
theorem dL_act_266 : decode cL_act 266 = .ok (.if_icmp .ne 11, 3) := by decide +kernel
theorem dL_act_269 : decode cL_act 269 = .ok (.aload_n 0, 1) := by decide +kernel
theorem dL_act_270 : decode cL_act 270 = .ok (.iload_n 3, 1) := by decide +kernel
theorem dL_act_271 : decode cL_act 271 = .ok (.invokevirtual 62, 3) := by decide +kernel
theorem dL_act_274 : decode cL_act 274 = .ok (.goto 26, 3) := by decide +kernel
theorem dL_act_277 : decode cL_act 277 = .ok (.iload_n 2, 1) := by decide +kernel
theorem dL_act_278 : decode cL_act 278 = .ok (.iconst 3, 1) := by decide +kernel
theorem dL_act_279 : decode cL_act 279 = .ok (.iand, 1) := by decide +kernel
theorem dL_act_280 : decode cL_act 280 = .ok (.ifCond .ne 13, 3) := by decide +kernel
theorem dL_act_283 : decode cL_act 283 = .ok (.iconst 1, 1) := by decide +kernel
theorem dL_act_284 : decode cL_act 284 = .ok (.aload_n 0, 1) := by decide +kernel
theorem dL_act_285 : decode cL_act 285 = .ok (.iload_n 3, 1) := by decide +kernel
theorem dL_act_286 : decode cL_act 286 = .ok (.invokevirtual 81, 3) := by decide +kernel
theorem dL_act_289 : decode cL_act 289 = .ok (.iadd, 1) := by decide +kernel
theorem dL_act_290 : decode cL_act 290 = .ok (.goto 10, 3) := by decide +kernel
theorem dL_act_293 : decode cL_act 293 = .ok (.iconst 2, 1) := by decide +kernel
theorem dL_act_294 : decode cL_act 294 = .ok (.aload_n 0, 1) := by decide +kernel
theorem dL_act_295 : decode cL_act 295 = .ok (.iload_n 3, 1) := by decide +kernel
theorem dL_act_296 : decode cL_act 296 = .ok (.invokevirtual 78, 3) := by decide +kernel
theorem dL_act_299 : decode cL_act 299 = .ok (.iadd, 1) := by decide +kernel
theorem dL_act_300 : decode cL_act 300 = .ok (.ireturn, 1) := by decide +kernel
theorem dL_act_301 : decode cL_act 301 = .ok (.iload_n 2, 1) := by decide +kernel
theorem dL_act_302 : decode cL_act 302 = .ok (.bipush 7, 2) := by decide +kernel
theorem dL_act_304 : decode cL_act 304 = .ok (.iand, 1) := by decide +kernel
theorem dL_act_305 : decode cL_act 305 = .ok (.ifCond .ne 11, 3) := by decide +kernel
theorem dL_act_308 : decode cL_act 308 = .ok (.aload_n 0, 1) := by decide +kernel
theorem dL_act_309 : decode cL_act 309 = .ok (.iconst 0, 1) := by decide +kernel
theorem dL_act_310 : decode cL_act 310 = .ok (.invokevirtual 84, 3) := by decide +kernel
theorem dL_act_313 : decode cL_act 313 = .ok (.goto 8, 3) := by decide +kernel
theorem dL_act_316 : decode cL_act 316 = .ok (.aload_n 0, 1) := by decide +kernel
theorem dL_act_317 : decode cL_act 317 = .ok (.iload_n 3, 1) := by decide +kernel
theorem dL_act_318 : decode cL_act 318 = .ok (.invokevirtual 62, 3) := by decide +kernel
theorem dL_act_321 : decode cL_act 321 = .ok (.ireturn, 1) := by decide +kernel
theorem dL_act_322 : decode cL_act 322 = .ok (.iload 4, 2) := by decide +kernel
theorem dL_act_324 : decode cL_act 324 = .ok (.ifCond .ge 8, 3) := by decide +kernel
theorem dL_act_327 : decode cL_act 327 = .ok (.iload 4, 2) := by decide +kernel
theorem dL_act_329 : decode cL_act 329 = .ok (.goto 42, 3) := by decide +kernel
theorem dL_act_332 : decode cL_act 332 = .ok (.iload 5, 2) := by decide +kernel
theorem dL_act_334 : decode cL_act 334 = .ok (.ifCond .lt 12, 3) := by decide +kernel
theorem dL_act_337 : decode cL_act 337 = .ok (.aload_n 0, 1) := by decide +kernel
theorem dL_act_338 : decode cL_act 338 = .ok (.iload 5, 2) := by decide +kernel
theorem dL_act_340 : decode cL_act 340 = .ok (.invokevirtual 65, 3) := by decide +kernel
theorem dL_act_343 : decode cL_act 343 = .ok (.goto 28, 3) := by decide +kernel
theorem dL_act_346 : decode cL_act 346 = .ok (.aload_n 0, 1) := by decide +kernel
theorem dL_act_347 : decode cL_act 347 = .ok (.invokevirtual 20, 3) := by decide +kernel
theorem dL_act_350 : decode cL_act 350 = .ok (.bipush 40, 2) := by decide +kernel
theorem dL_act_352 : decode cL_act 352 = .ok (.if_icmp .ne 15, 3) := by decide +kernel
theorem dL_act_355 : decode cL_act 355 = .ok (.aload_n 0, 1) := by decide +kernel
theorem dL_act_356 : decode cL_act 356 = .ok (.aload_n 0, 1) := by decide +kernel
theorem dL_act_357 : decode cL_act 357 = .ok (.iconst 0, 1) := by decide +kernel
theorem dL_act_358 : decode cL_act 358 = .ok (.invokevirtual 23, 3) := by decide +kernel
theorem dL_act_361 : decode cL_act 361 = .ok (.invokevirtual 65, 3) := by decide +kernel
theorem dL_act_364 : decode cL_act 364 = .ok (.goto 7, 3) := by decide +kernel
theorem dL_act_367 : decode cL_act 367 = .ok (.aload_n 0, 1) := by decide +kernel
theorem dL_act_368 : decode cL_act 368 = .ok (.invokevirtual 87, 3) := by decide +kernel
theorem dL_act_371 : decode cL_act 371 = .ok (.ireturn, 1) := by decide +kernel
set_option maxRecDepth 20000 in
theorem ggL_holds_X6_entries : GoodIn wsL_holds wsX6_entries := goodIn_r _ [5, 6, 7, 8, 107, 108, 109, 110, 111, 112, 113, 114, 115, 116, 117, 118] (by decide +kernel) (by decide +kernel)
set_option maxRecDepth 20000 in
theorem gL_holds_X6_entries : GoodIn wsL_holds (wsV RL 20 RX6 yX6_entries wsX6_entries) := goodIn_app (goodIn_of _ (by decide +kernel)) ggL_holds_X6_entries
set_option maxRecDepth 20000 in
theorem ggL_holds_X6_leaves : GoodIn wsL_holds wsX6_leaves := goodIn_r _ [12, 6, 13, 14, 15, 16, 17, 18, 19, 20, 21, 22, 107, 108, 109, 110, 111, 112, 113, 114, 115, 119, 120, 121] (by decide +kernel) (by decide +kernel)
set_option maxRecDepth 20000 in
theorem gL_holds_X6_leaves : GoodIn wsL_holds (wsV RL 90 RX6 yX6_leaves wsX6_leaves) := goodIn_app (goodIn_of _ (by decide +kernel)) ggL_holds_X6_leaves
set_option maxRecDepth 20000 in
theorem ggL_holds_X6_splits : GoodIn wsL_holds wsX6_splits := goodIn_r _ [26, 6, 13, 27, 107, 108, 109, 110, 111, 112, 113, 114, 115, 119, 120, 121] (by decide +kernel) (by decide +kernel)
set_option maxRecDepth 20000 in
theorem gL_holds_X6_splits : GoodIn wsL_holds (wsV RL 11 RX6 yX6_splits wsX6_splits) := goodIn_app (goodIn_of _ (by decide +kernel)) ggL_holds_X6_splits
set_option maxRecDepth 20000 in
theorem ggL_holds_X6_merges : GoodIn wsL_holds wsX6_merges := goodIn_r _ [31, 6, 13, 32, 107, 108, 109, 110, 111, 112, 113, 114, 115, 119, 120, 121] (by decide +kernel) (by decide +kernel)
set_option maxRecDepth 20000 in
theorem gL_holds_X6_merges : GoodIn wsL_holds (wsV RL 17 RX6 yX6_merges wsX6_merges) := goodIn_app (goodIn_of _ (by decide +kernel)) ggL_holds_X6_merges
set_option maxRecDepth 20000 in
theorem ggL_holds_X6_depthOf : GoodIn wsL_holds wsX6_depthOf := goodIn_ca (goodIn_r _ [36, 6, 13, 37, 38, 39, 4, 40, 41, 42, 107, 108, 109, 110, 111, 112, 113, 114, 115, 119, 120, 121] (by decide +kernel) (by decide +kernel)) (goodIn_sub (fun _ h => List.mem_cons_of_mem _ (List.mem_append_right _ h)) (by decide +kernel))
set_option maxRecDepth 20000 in
theorem gL_holds_X6_depthOf : GoodIn wsL_holds (wsV RL 38 RX6 yX6_depthOf wsX6_depthOf) := goodIn_app (goodIn_of _ (by decide +kernel)) ggL_holds_X6_depthOf
set_option maxRecDepth 20000 in
theorem ggL_holds_X6_withHash : GoodIn wsL_holds wsX6_withHash := goodIn_ca (goodIn_r _ [46, 6, 7, 38, 39, 4, 40, 41, 42, 47, 48, 49, 50, 51, 52, 21, 17, 22, 53, 54, 55, 56, 57, 58, 59, 60, 61, 107, 108, 109, 110, 111, 112, 113, 114, 115, 116, 117, 118] (by decide +kernel) (by decide +kernel)) (goodIn_sub (fun _ h => List.mem_cons_of_mem _ (List.mem_append_right _ h)) (by decide +kernel))
set_option maxRecDepth 20000 in
theorem gL_holds_X6_withHash : GoodIn wsL_holds (wsV RL 93 RX6 yX6_withHash wsX6_withHash) := goodIn_app (goodIn_of _ (by decide +kernel)) ggL_holds_X6_withHash
set_option maxRecDepth 20000 in
theorem ggL_holds_X6_leafSize : GoodIn wsL_holds wsX6_leafSize := goodIn_ca (goodIn_r _ [65, 6, 7, 13, 37, 38, 39, 4, 40, 41, 42, 47, 48, 49, 50, 51, 52, 21, 17, 22, 53, 54, 55, 56, 57, 58, 59, 60, 61, 107, 108, 109, 110, 111, 112, 113, 114, 115, 119, 120, 121, 116, 117, 118] (by decide +kernel) (by decide +kernel)) (goodIn_sub (fun _ h => List.mem_cons_of_mem _ (List.mem_append_right _ h)) (by decide +kernel))
set_option maxRecDepth 20000 in
theorem gL_holds_X6_leafSize : GoodIn wsL_holds (wsV RL 96 RX6 yX6_leafSize wsX6_leafSize) := goodIn_app (goodIn_of _ (by decide +kernel)) ggL_holds_X6_leafSize
set_option maxRecDepth 20000 in
theorem ggL_holds_X6_idAt : GoodIn wsL_holds wsX6_idAt := goodIn_ca (goodIn_r _ [69, 41, 42, 6, 7, 8, 70, 71, 72, 50, 73, 61, 107, 108, 109, 110, 111, 112, 113, 114, 115, 116, 117, 118] (by decide +kernel) (by decide +kernel)) (goodIn_sub (fun _ h => List.mem_cons_of_mem _ (List.mem_append_right _ h)) (by decide +kernel))
set_option maxRecDepth 20000 in
theorem gL_holds_X6_idAt : GoodIn wsL_holds (wsV RL 23 RX6 yX6_idAt wsX6_idAt) := goodIn_app (goodIn_of _ (by decide +kernel)) ggL_holds_X6_idAt
set_option maxRecDepth 20000 in
theorem ggL_holds_X6_hashOf : GoodIn wsL_holds wsX6_hashOf := goodIn_ca (goodIn_r _ [77, 6, 7, 78, 79, 80, 4, 81, 41, 42, 82, 83, 84, 50, 85, 60, 86, 71, 72, 73, 61, 87, 88, 89, 90, 107, 108, 109, 110, 111, 112, 113, 114, 115, 116, 117, 118] (by decide +kernel) (by decide +kernel)) (goodIn_sub (fun _ h => List.mem_cons_of_mem _ (List.mem_append_right _ h)) (by decide +kernel))
set_option maxRecDepth 20000 in
theorem gL_holds_X6_hashOf : GoodIn wsL_holds (wsV RL 29 RX6 yX6_hashOf wsX6_hashOf) := goodIn_app (goodIn_of _ (by decide +kernel)) ggL_holds_X6_hashOf
set_option maxRecDepth 20000 in
theorem ggL_holds_X6_letterOf : GoodIn wsL_holds wsX6_letterOf := goodIn_ca (goodIn_r _ [94, 41, 42, 6, 7, 95, 78, 79, 80, 4, 81, 82, 83, 84, 50, 85, 60, 86, 71, 72, 73, 61, 96, 97, 98, 99, 100, 101, 102, 107, 108, 109, 110, 111, 112, 113, 114, 115, 116, 117, 118] (by decide +kernel) (by decide +kernel)) (goodIn_sub (fun _ h => List.mem_cons_of_mem _ (List.mem_append_right _ h)) (by decide +kernel))
set_option maxRecDepth 20000 in
theorem gL_holds_X6_letterOf : GoodIn wsL_holds (wsV RL 32 RX6 yX6_letterOf wsX6_letterOf) := goodIn_app (goodIn_of _ (by decide +kernel)) ggL_holds_X6_letterOf
set_option maxRecDepth 20000 in
theorem ggL_holds_X6_meanLeafSize : GoodIn wsL_holds wsX6_meanLeafSize := goodIn_r _ [106, 6, 13, 7, 8, 14, 15, 16, 17, 18, 19, 20, 21, 22, 107, 108, 109, 110, 111, 112, 113, 114, 115, 116, 117, 118, 119, 120, 121] (by decide +kernel) (by decide +kernel)
set_option maxRecDepth 20000 in
theorem gL_holds_X6_meanLeafSize : GoodIn wsL_holds (wsV RL 99 RX6 yX6_meanLeafSize wsX6_meanLeafSize) := goodIn_app (goodIn_of _ (by decide +kernel)) ggL_holds_X6_meanLeafSize
theorem dL_holds_0 : decode cL_holds 0 = .ok (.iconst 0, 1) := by decide +kernel
theorem dL_holds_1 : decode cL_holds 1 = .ok (.istore_n 1, 1) := by decide +kernel
theorem dL_holds_2 : decode cL_holds 2 = .ok (.iconst 0, 1) := by decide +kernel
theorem dL_holds_3 : decode cL_holds 3 = .ok (.istore_n 2, 1) := by decide +kernel
theorem dL_holds_4 : decode cL_holds 4 = .ok (.iconst (-1), 1) := by decide +kernel
theorem dL_holds_5 : decode cL_holds 5 = .ok (.istore_n 3, 1) := by decide +kernel
theorem dL_holds_6 : decode cL_holds 6 = .ok (.aload_n 0, 1) := by decide +kernel
theorem dL_holds_7 : decode cL_holds 7 = .ok (.invokevirtual 20, 3) := by decide +kernel
theorem dL_holds_10 : decode cL_holds 10 = .ok (.bipush 40, 2) := by decide +kernel
theorem dL_holds_12 : decode cL_holds 12 = .ok (.if_icmp .gt 34, 3) := by decide +kernel
theorem dL_holds_15 : decode cL_holds 15 = .ok (.aload_n 0, 1) := by decide +kernel
theorem dL_holds_16 : decode cL_holds 16 = .ok (.invokevirtual 90, 3) := by decide +kernel
theorem dL_holds_19 : decode cL_holds 19 = .ok (.iconst 1, 1) := by decide +kernel
theorem dL_holds_20 : decode cL_holds 20 = .ok (.aload_n 0, 1) := by decide +kernel
theorem dL_holds_21 : decode cL_holds 21 = .ok (.invokevirtual 11, 3) := by decide +kernel
theorem dL_holds_24 : decode cL_holds 24 = .ok (.iadd, 1) := by decide +kernel
theorem dL_holds_25 : decode cL_holds 25 = .ok (.aload_n 0, 1) := by decide +kernel
theorem dL_holds_26 : decode cL_holds 26 = .ok (.invokevirtual 17, 3) := by decide +kernel
theorem dL_holds_29 : decode cL_holds 29 = .ok (.isub, 1) := by decide +kernel
theorem dL_holds_30 : decode cL_holds 30 = .ok (.if_icmp .ne 16, 3) := by decide +kernel
theorem dL_holds_33 : decode cL_holds 33 = .ok (.aload_n 0, 1) := by decide +kernel
theorem dL_holds_34 : decode cL_holds 34 = .ok (.invokevirtual 90, 3) := by decide +kernel
theorem dL_holds_37 : decode cL_holds 37 = .ok (.bipush 64, 2) := by decide +kernel
theorem dL_holds_39 : decode cL_holds 39 = .ok (.if_icmp .gt 7, 3) := by decide +kernel
theorem dL_holds_42 : decode cL_holds 42 = .ok (.iconst 1, 1) := by decide +kernel
theorem dL_holds_43 : decode cL_holds 43 = .ok (.goto 4, 3) := by decide +kernel
theorem dL_holds_46 : decode cL_holds 46 = .ok (.iconst 0, 1) := by decide +kernel
theorem dL_holds_47 : decode cL_holds 47 = .ok (.istore 4, 2) := by decide +kernel
theorem dL_holds_49 : decode cL_holds 49 = .ok (.iconst 0, 1) := by decide +kernel
theorem dL_holds_50 : decode cL_holds 50 = .ok (.istore 5, 2) := by decide +kernel
theorem dL_holds_52 : decode cL_holds 52 = .ok (.iload 5, 2) := by decide +kernel
theorem dL_holds_54 : decode cL_holds 54 = .ok (.bipush 64, 2) := by decide +kernel
theorem dL_holds_56 : decode cL_holds 56 = .ok (.if_icmp .ge 144, 3) := by decide +kernel
theorem dL_holds_59 : decode cL_holds 59 = .ok (.aload_n 0, 1) := by decide +kernel
theorem dL_holds_60 : decode cL_holds 60 = .ok (.iload 5, 2) := by decide +kernel
theorem dL_holds_62 : decode cL_holds 62 = .ok (.invokevirtual 38, 3) := by decide +kernel
theorem dL_holds_65 : decode cL_holds 65 = .ok (.istore 6, 2) := by decide +kernel
theorem dL_holds_67 : decode cL_holds 67 = .ok (.bipush 64, 2) := by decide +kernel
theorem dL_holds_69 : decode cL_holds 69 = .ok (.iload 6, 2) := by decide +kernel
theorem dL_holds_71 : decode cL_holds 71 = .ok (.ishr, 1) := by decide +kernel
theorem dL_holds_72 : decode cL_holds 72 = .ok (.istore 7, 2) := by decide +kernel
theorem dL_holds_74 : decode cL_holds 74 = .ok (.iload_n 2, 1) := by decide +kernel
theorem dL_holds_75 : decode cL_holds 75 = .ok (.aload_n 0, 1) := by decide +kernel
theorem dL_holds_76 : decode cL_holds 76 = .ok (.iload 5, 2) := by decide +kernel
theorem dL_holds_78 : decode cL_holds 78 = .ok (.invokevirtual 93, 3) := by decide +kernel
theorem dL_holds_81 : decode cL_holds 81 = .ok (.iadd, 1) := by decide +kernel
theorem dL_holds_82 : decode cL_holds 82 = .ok (.istore_n 2, 1) := by decide +kernel
theorem dL_holds_83 : decode cL_holds 83 = .ok (.iload_n 1, 1) := by decide +kernel
theorem dL_holds_84 : decode cL_holds 84 = .ok (.iload 5, 2) := by decide +kernel
theorem dL_holds_86 : decode cL_holds 86 = .ok (.iload 7, 2) := by decide +kernel
theorem dL_holds_88 : decode cL_holds 88 = .ok (.irem, 1) := by decide +kernel
theorem dL_holds_89 : decode cL_holds 89 = .ok (.ifCond .ne 7, 3) := by decide +kernel
theorem dL_holds_92 : decode cL_holds 92 = .ok (.iconst 1, 1) := by decide +kernel
theorem dL_holds_93 : decode cL_holds 93 = .ok (.goto 4, 3) := by decide +kernel
theorem dL_holds_96 : decode cL_holds 96 = .ok (.iconst 0, 1) := by decide +kernel
theorem dL_holds_97 : decode cL_holds 97 = .ok (.iadd, 1) := by decide +kernel
theorem dL_holds_98 : decode cL_holds 98 = .ok (.istore_n 1, 1) := by decide +kernel
theorem dL_holds_99 : decode cL_holds 99 = .ok (.iload 4, 2) := by decide +kernel
theorem dL_holds_101 : decode cL_holds 101 = .ok (.ifCond .eq 90, 3) := by decide +kernel
theorem dL_holds_104 : decode cL_holds 104 = .ok (.iload 6, 2) := by decide +kernel
theorem dL_holds_106 : decode cL_holds 106 = .ok (.ifCond .lt 85, 3) := by decide +kernel
theorem dL_holds_109 : decode cL_holds 109 = .ok (.iload 6, 2) := by decide +kernel
theorem dL_holds_111 : decode cL_holds 111 = .ok (.bipush 6, 2) := by decide +kernel
theorem dL_holds_113 : decode cL_holds 113 = .ok (.if_icmp .gt 78, 3) := by decide +kernel
theorem dL_holds_116 : decode cL_holds 116 = .ok (.aload_n 0, 1) := by decide +kernel
theorem dL_holds_117 : decode cL_holds 117 = .ok (.iload 5, 2) := by decide +kernel
theorem dL_holds_119 : decode cL_holds 119 = .ok (.iload 7, 2) := by decide +kernel
theorem dL_holds_121 : decode cL_holds 121 = .ok (.idiv, 1) := by decide +kernel
theorem dL_holds_122 : decode cL_holds 122 = .ok (.iload 7, 2) := by decide +kernel
theorem dL_holds_124 : decode cL_holds 124 = .ok (.imul, 1) := by decide +kernel
theorem dL_holds_125 : decode cL_holds 125 = .ok (.invokevirtual 38, 3) := by decide +kernel
theorem dL_holds_128 : decode cL_holds 128 = .ok (.iload 6, 2) := by decide +kernel
theorem dL_holds_130 : decode cL_holds 130 = .ok (.if_icmp .ne 61, 3) := by decide +kernel
theorem dL_holds_133 : decode cL_holds 133 = .ok (.aload_n 0, 1) := by decide +kernel
theorem dL_holds_134 : decode cL_holds 134 = .ok (.iload 5, 2) := by decide +kernel
theorem dL_holds_136 : decode cL_holds 136 = .ok (.invokevirtual 96, 3) := by decide +kernel
theorem dL_holds_139 : decode cL_holds 139 = .ok (.aload_n 0, 1) := by decide +kernel
theorem dL_holds_140 : decode cL_holds 140 = .ok (.iload 5, 2) := by decide +kernel
theorem dL_holds_142 : decode cL_holds 142 = .ok (.invokevirtual 93, 3) := by decide +kernel
theorem dL_holds_145 : decode cL_holds 145 = .ok (.if_icmp .lt 46, 3) := by decide +kernel
theorem dL_holds_148 : decode cL_holds 148 = .ok (.iload 6, 2) := by decide +kernel
theorem dL_holds_150 : decode cL_holds 150 = .ok (.bipush 6, 2) := by decide +kernel
theorem dL_holds_152 : decode cL_holds 152 = .ok (.if_icmp .eq 13, 3) := by decide +kernel
theorem dL_holds_155 : decode cL_holds 155 = .ok (.aload_n 0, 1) := by decide +kernel
theorem dL_holds_156 : decode cL_holds 156 = .ok (.iload 5, 2) := by decide +kernel
theorem dL_holds_158 : decode cL_holds 158 = .ok (.invokevirtual 96, 3) := by decide +kernel
theorem dL_holds_161 : decode cL_holds 161 = .ok (.iconst 4, 1) := by decide +kernel
theorem dL_holds_162 : decode cL_holds 162 = .ok (.if_icmp .gt 29, 3) := by decide +kernel
theorem dL_holds_165 : decode cL_holds 165 = .ok (.iload 6, 2) := by decide +kernel
theorem dL_holds_167 : decode cL_holds 167 = .ok (.bipush 6, 2) := by decide +kernel
theorem dL_holds_169 : decode cL_holds 169 = .ok (.if_icmp .lt 18, 3) := by decide +kernel
theorem dL_holds_172 : decode cL_holds 172 = .ok (.aload_n 0, 1) := by decide +kernel
theorem dL_holds_173 : decode cL_holds 173 = .ok (.iload 5, 2) := by decide +kernel
theorem dL_holds_175 : decode cL_holds 175 = .ok (.invokevirtual 96, 3) := by decide +kernel
theorem dL_holds_178 : decode cL_holds 178 = .ok (.aload_n 0, 1) := by decide +kernel
theorem dL_holds_179 : decode cL_holds 179 = .ok (.iload 5, 2) := by decide +kernel
theorem dL_holds_181 : decode cL_holds 181 = .ok (.invokevirtual 93, 3) := by decide +kernel
theorem dL_holds_184 : decode cL_holds 184 = .ok (.if_icmp .ne 7, 3) := by decide +kernel
theorem dL_holds_187 : decode cL_holds 187 = .ok (.iconst 1, 1) := by decide +kernel
theorem dL_holds_188 : decode cL_holds 188 = .ok (.goto 4, 3) := by decide +kernel
theorem dL_holds_191 : decode cL_holds 191 = .ok (.iconst 0, 1) := by decide +kernel
theorem dL_holds_192 : decode cL_holds 192 = .ok (.istore 4, 2) := by decide +kernel
theorem dL_holds_194 : decode cL_holds 194 = .ok (.iinc 5 1, 3) := by decide +kernel
theorem dL_holds_197 : decode cL_holds 197 = .ok (.goto (-145), 3) := by decide +kernel
theorem dL_holds_200 : decode cL_holds 200 = .ok (.iconst 0, 1) := by decide +kernel
theorem dL_holds_201 : decode cL_holds 201 = .ok (.istore 5, 2) := by decide +kernel
theorem dL_holds_203 : decode cL_holds 203 = .ok (.iload 5, 2) := by decide +kernel
theorem dL_holds_205 : decode cL_holds 205 = .ok (.aload_n 0, 1) := by decide +kernel
theorem dL_holds_206 : decode cL_holds 206 = .ok (.invokevirtual 20, 3) := by decide +kernel
theorem dL_holds_209 : decode cL_holds 209 = .ok (.if_icmp .ge 83, 3) := by decide +kernel
theorem dL_holds_212 : decode cL_holds 212 = .ok (.iload 4, 2) := by decide +kernel
theorem dL_holds_214 : decode cL_holds 214 = .ok (.ifCond .eq 78, 3) := by decide +kernel
theorem dL_holds_217 : decode cL_holds 217 = .ok (.aload_n 0, 1) := by decide +kernel
theorem dL_holds_218 : decode cL_holds 218 = .ok (.iload 5, 2) := by decide +kernel
theorem dL_holds_220 : decode cL_holds 220 = .ok (.invokevirtual 23, 3) := by decide +kernel
theorem dL_holds_223 : decode cL_holds 223 = .ok (.istore 6, 2) := by decide +kernel
theorem dL_holds_225 : decode cL_holds 225 = .ok (.sipush 1000, 3) := by decide +kernel
theorem dL_holds_228 : decode cL_holds 228 = .ok (.aload_n 0, 1) := by decide +kernel
theorem dL_holds_229 : decode cL_holds 229 = .ok (.iload 6, 2) := by decide +kernel
theorem dL_holds_231 : decode cL_holds 231 = .ok (.invokevirtual 29, 3) := by decide +kernel
theorem dL_holds_234 : decode cL_holds 234 = .ok (.imul, 1) := by decide +kernel
theorem dL_holds_235 : decode cL_holds 235 = .ok (.iload 6, 2) := by decide +kernel
theorem dL_holds_237 : decode cL_holds 237 = .ok (.iadd, 1) := by decide +kernel
theorem dL_holds_238 : decode cL_holds 238 = .ok (.istore 7, 2) := by decide +kernel
theorem dL_holds_240 : decode cL_holds 240 = .ok (.iload 6, 2) := by decide +kernel
theorem dL_holds_242 : decode cL_holds 242 = .ok (.ifCond .lt 38, 3) := by decide +kernel
theorem dL_holds_245 : decode cL_holds 245 = .ok (.iload 7, 2) := by decide +kernel
theorem dL_holds_247 : decode cL_holds 247 = .ok (.iload_n 3, 1) := by decide +kernel
theorem dL_holds_248 : decode cL_holds 248 = .ok (.if_icmp .le 32, 3) := by decide +kernel
theorem dL_holds_251 : decode cL_holds 251 = .ok (.aload_n 0, 1) := by decide +kernel
theorem dL_holds_252 : decode cL_holds 252 = .ok (.iload 6, 2) := by decide +kernel
theorem dL_holds_254 : decode cL_holds 254 = .ok (.iconst 0, 1) := by decide +kernel
theorem dL_holds_255 : decode cL_holds 255 = .ok (.invokevirtual 32, 3) := by decide +kernel
theorem dL_holds_258 : decode cL_holds 258 = .ok (.bipush 97, 2) := by decide +kernel
theorem dL_holds_260 : decode cL_holds 260 = .ok (.if_icmp .lt 20, 3) := by decide +kernel
theorem dL_holds_263 : decode cL_holds 263 = .ok (.aload_n 0, 1) := by decide +kernel
theorem dL_holds_264 : decode cL_holds 264 = .ok (.iload 6, 2) := by decide +kernel
theorem dL_holds_266 : decode cL_holds 266 = .ok (.bipush 6, 2) := by decide +kernel
theorem dL_holds_268 : decode cL_holds 268 = .ok (.invokevirtual 32, 3) := by decide +kernel
theorem dL_holds_271 : decode cL_holds 271 = .ok (.bipush (-2), 2) := by decide +kernel
theorem dL_holds_273 : decode cL_holds 273 = .ok (.if_icmp .ne 7, 3) := by decide +kernel
theorem dL_holds_276 : decode cL_holds 276 = .ok (.iconst 1, 1) := by decide +kernel
theorem dL_holds_277 : decode cL_holds 277 = .ok (.goto 4, 3) := by decide +kernel
theorem dL_holds_280 : decode cL_holds 280 = .ok (.iconst 0, 1) := by decide +kernel
theorem dL_holds_281 : decode cL_holds 281 = .ok (.istore 4, 2) := by decide +kernel
theorem dL_holds_283 : decode cL_holds 283 = .ok (.iload 7, 2) := by decide +kernel
theorem dL_holds_285 : decode cL_holds 285 = .ok (.istore_n 3, 1) := by decide +kernel
theorem dL_holds_286 : decode cL_holds 286 = .ok (.iinc 5 1, 3) := by decide +kernel
theorem dL_holds_289 : decode cL_holds 289 = .ok (.goto (-86), 3) := by decide +kernel
theorem dL_holds_292 : decode cL_holds 292 = .ok (.iload 4, 2) := by decide +kernel
theorem dL_holds_294 : decode cL_holds 294 = .ok (.ifCond .eq 52, 3) := by decide +kernel
theorem dL_holds_297 : decode cL_holds 297 = .ok (.iload_n 1, 1) := by decide +kernel
theorem dL_holds_298 : decode cL_holds 298 = .ok (.aload_n 0, 1) := by decide +kernel
theorem dL_holds_299 : decode cL_holds 299 = .ok (.invokevirtual 90, 3) := by decide +kernel
theorem dL_holds_302 : decode cL_holds 302 = .ok (.if_icmp .ne 44, 3) := by decide +kernel
theorem dL_holds_305 : decode cL_holds 305 = .ok (.iload_n 2, 1) := by decide +kernel
theorem dL_holds_306 : decode cL_holds 306 = .ok (.aload_n 0, 1) := by decide +kernel
theorem dL_holds_307 : decode cL_holds 307 = .ok (.invokevirtual 20, 3) := by decide +kernel
theorem dL_holds_310 : decode cL_holds 310 = .ok (.if_icmp .ne 36, 3) := by decide +kernel
theorem dL_holds_313 : decode cL_holds 313 = .ok (.aload_n 0, 1) := by decide +kernel
theorem dL_holds_314 : decode cL_holds 314 = .ok (.aload_n 0, 1) := by decide +kernel
theorem dL_holds_315 : decode cL_holds 315 = .ok (.invokevirtual 20, 3) := by decide +kernel
theorem dL_holds_318 : decode cL_holds 318 = .ok (.invokevirtual 23, 3) := by decide +kernel
theorem dL_holds_321 : decode cL_holds 321 = .ok (.bipush (-2), 2) := by decide +kernel
theorem dL_holds_323 : decode cL_holds 323 = .ok (.if_icmp .ne 23, 3) := by decide +kernel
theorem dL_holds_326 : decode cL_holds 326 = .ok (.aload_n 0, 1) := by decide +kernel
theorem dL_holds_327 : decode cL_holds 327 = .ok (.invokevirtual 99, 3) := by decide +kernel
theorem dL_holds_330 : decode cL_holds 330 = .ok (.aload_n 0, 1) := by decide +kernel
theorem dL_holds_331 : decode cL_holds 331 = .ok (.invokevirtual 20, 3) := by decide +kernel
theorem dL_holds_334 : decode cL_holds 334 = .ok (.i2f, 1) := by decide +kernel
theorem dL_holds_335 : decode cL_holds 335 = .ok (.iload_n 1, 1) := by decide +kernel
theorem dL_holds_336 : decode cL_holds 336 = .ok (.i2f, 1) := by decide +kernel
theorem dL_holds_337 : decode cL_holds 337 = .ok (.fdiv, 1) := by decide +kernel
theorem dL_holds_338 : decode cL_holds 338 = .ok (.fcmp .l, 1) := by decide +kernel
theorem dL_holds_339 : decode cL_holds 339 = .ok (.ifCond .ne 7, 3) := by decide +kernel
theorem dL_holds_342 : decode cL_holds 342 = .ok (.iconst 1, 1) := by decide +kernel
theorem dL_holds_343 : decode cL_holds 343 = .ok (.goto 4, 3) := by decide +kernel
theorem dL_holds_346 : decode cL_holds 346 = .ok (.iconst 0, 1) := by decide +kernel
theorem dL_holds_347 : decode cL_holds 347 = .ok (.ireturn, 1) := by decide +kernel
set_option maxRecDepth 20000 in
theorem ggL_isNext_X6_position : GoodIn wsL_isNext wsX6_position := goodIn_ca (goodIn_r _ [5, 6, 7, 8, 9, 4, 10, 11, 12, 189, 190, 191, 192, 193, 194, 195, 196, 197] (by decide +kernel) (by decide +kernel)) (goodIn_sub (fun _ h => List.mem_cons_of_mem _ (List.mem_append_left _ (List.mem_append_right _ h))) (by decide +kernel))
set_option maxRecDepth 20000 in
theorem gL_isNext_X6_position : GoodIn wsL_isNext (wsV RL 41 RX6 yX6_position wsX6_position) := goodIn_app (goodIn_of _ (by decide +kernel)) ggL_isNext_X6_position
set_option maxRecDepth 20000 in
theorem ggL_isNext_X6_remaining : GoodIn wsL_isNext wsX6_remaining := goodIn_ca (goodIn_r _ [16, 6, 17, 18, 8, 9, 4, 10, 11, 12, 19, 20, 21, 22, 23, 24, 25, 26, 27, 28, 29, 30, 31, 32, 33, 34, 35, 36, 189, 190, 191, 192, 193, 194, 195, 196, 197, 198, 199, 200] (by decide +kernel) (by decide +kernel)) (goodIn_sub (fun _ h => List.mem_cons_of_mem _ (List.mem_append_left _ (List.mem_append_right _ h))) (by decide +kernel))
set_option maxRecDepth 20000 in
theorem gL_isNext_X6_remaining : GoodIn wsL_isNext (wsV RL 103 RX6 yX6_remaining wsX6_remaining) := goodIn_app (goodIn_of _ (by decide +kernel)) ggL_isNext_X6_remaining
set_option maxRecDepth 20000 in
theorem ggL_isNext_X6_peek : GoodIn wsL_isNext wsX6_peek := goodIn_ca (goodIn_r _ [40, 6, 17, 18, 8, 9, 4, 10, 11, 12, 19, 20, 21, 22, 23, 24, 25, 26, 27, 28, 29, 30, 31, 32, 33, 34, 35, 36, 41, 42, 43, 44, 189, 190, 191, 192, 193, 194, 195, 196, 197, 198, 199, 200] (by decide +kernel) (by decide +kernel)) (goodIn_sub (fun _ h => List.mem_cons_of_mem _ (List.mem_append_left _ (List.mem_append_right _ h))) (by decide +kernel))
set_option maxRecDepth 20000 in
theorem gL_isNext_X6_peek : GoodIn wsL_isNext (wsV RL 106 RX6 yX6_peek wsX6_peek) := goodIn_app (goodIn_of _ (by decide +kernel)) ggL_isNext_X6_peek
set_option maxRecDepth 20000 in
theorem ggL_isNext_X6_entries : GoodIn wsL_isNext wsX6_entries := goodIn_r _ [48, 6, 17, 18, 189, 190, 191, 192, 193, 194, 195, 196, 197, 198, 199, 200] (by decide +kernel) (by decide +kernel)
set_option maxRecDepth 20000 in
theorem gL_isNext_X6_entries : GoodIn wsL_isNext (wsV RL 20 RX6 yX6_entries wsX6_entries) := goodIn_app (goodIn_of _ (by decide +kernel)) ggL_isNext_X6_entries
set_option maxRecDepth 20000 in
theorem ggL_isNext_X6_idAt : GoodIn wsL_isNext wsX6_idAt := goodIn_ca (goodIn_r _ [52, 11, 12, 6, 17, 18, 41, 42, 43, 33, 44, 36, 189, 190, 191, 192, 193, 194, 195, 196, 197, 198, 199, 200] (by decide +kernel) (by decide +kernel)) (goodIn_sub (fun _ h => List.mem_cons_of_mem _ (List.mem_append_left _ (List.mem_append_right _ h))) (by decide +kernel))
set_option maxRecDepth 20000 in
theorem gL_isNext_X6_idAt : GoodIn wsL_isNext (wsV RL 23 RX6 yX6_idAt wsX6_idAt) := goodIn_app (goodIn_of _ (by decide +kernel)) ggL_isNext_X6_idAt
set_option maxRecDepth 20000 in
theorem ggL_isNext_X6_hashOf : GoodIn wsL_isNext wsX6_hashOf := goodIn_ca (goodIn_r _ [56, 6, 17, 57, 58, 59, 4, 60, 11, 12, 61, 62, 63, 33, 64, 35, 65, 42, 43, 44, 36, 66, 67, 68, 69, 189, 190, 191, 192, 193, 194, 195, 196, 197, 198, 199, 200] (by decide +kernel) (by decide +kernel)) (goodIn_sub (fun _ h => List.mem_cons_of_mem _ (List.mem_append_left _ (List.mem_append_right _ h))) (by decide +kernel))
set_option maxRecDepth 20000 in
theorem gL_isNext_X6_hashOf : GoodIn wsL_isNext (wsV RL 29 RX6 yX6_hashOf wsX6_hashOf) := goodIn_app (goodIn_of _ (by decide +kernel)) ggL_isNext_X6_hashOf
set_option maxRecDepth 20000 in
theorem ggL_isNext_L_told : GoodIn wsL_isNext wsL_told := goodIn_ca (goodIn_r _ [73, 74, 75, 76, 77, 78, 79, 4, 80, 6, 81, 82, 83, 84, 85, 86, 87, 45, 46, 47, 48, 17, 18, 49, 50, 51, 52, 11, 12, 41, 42, 43, 33, 44, 36, 53, 54, 55, 56, 57, 58, 59, 60, 61, 62, 63, 64, 35, 65, 66, 67, 68, 69, 88, 89, 90, 91, 92, 93, 94, 95, 96, 97, 98, 99, 100, 101, 102, 103, 104, 105, 106, 107, 1, 2, 3, 5, 7, 8, 9, 10, 189, 190, 191, 192, 193, 194, 195, 196, 197, 201, 202, 203, 198, 199, 200] (by decide +kernel) (by decide +kernel)) (goodIn_sub (fun _ h => List.mem_cons_of_mem _ (List.mem_append_left _ (List.mem_append_right _ h))) (by decide +kernel))
set_option maxRecDepth 20000 in
theorem gL_isNext_L_told : GoodIn wsL_isNext (va_wsS RL 109 yL_told wsL_told) := goodIn_app (goodIn_of _ (by decide +kernel)) ggL_isNext_L_told
set_option maxRecDepth 20000 in
theorem ggL_isNext_X6_leafSize : GoodIn wsL_isNext wsX6_leafSize := goodIn_ca (goodIn_r _ [111, 6, 17, 81, 104, 105, 106, 4, 107, 11, 12, 112, 113, 114, 33, 115, 116, 117, 118, 119, 120, 121, 122, 123, 31, 32, 34, 35, 36, 189, 190, 191, 192, 193, 194, 195, 196, 197, 201, 202, 203, 198, 199, 200] (by decide +kernel) (by decide +kernel)) (goodIn_sub (fun _ h => List.mem_cons_of_mem _ (List.mem_append_left _ (List.mem_append_right _ h))) (by decide +kernel))
set_option maxRecDepth 20000 in
theorem gL_isNext_X6_leafSize : GoodIn wsL_isNext (wsV RL 96 RX6 yX6_leafSize wsX6_leafSize) := goodIn_app (goodIn_of _ (by decide +kernel)) ggL_isNext_X6_leafSize
set_option maxRecDepth 20000 in
theorem ggL_isNext_X6_readLeaf : GoodIn wsL_isNext wsX6_readLeaf := goodIn_ca (goodIn_ca (goodIn_r _ [127, 128, 6, 7, 17, 129, 8, 9, 4, 10, 11, 12, 130, 131, 132, 133, 134, 135, 19, 20, 21, 22, 23, 24, 136, 137, 138, 139, 140, 141, 142, 143, 144, 145, 146, 147, 29, 148, 149, 150, 151, 152, 153, 154, 155, 156, 33, 157, 36, 158, 159, 35, 160, 161, 162, 118, 163, 164, 165, 166, 167, 25, 26, 27, 28, 30, 31, 32, 34, 168, 169, 170, 171, 172, 173, 174, 67, 68, 69, 175, 121, 122, 189, 190, 191, 192, 193, 194, 195, 196, 197, 198, 199, 200, 204, 205, 206, 201, 202, 203] (by decide +kernel) (by decide +kernel)) (goodIn_sub (fun _ h => List.mem_cons_of_mem _ (List.mem_append_left _ (List.mem_append_right _ h))) (by decide +kernel))) (goodIn_sub (fun _ h => List.mem_cons_of_mem _ (List.mem_append_right _ h)) (by decide +kernel))
set_option maxRecDepth 20000 in
theorem gL_isNext_X6_readLeaf : GoodIn wsL_isNext (wsV RL 75 RX6 yX6_readLeaf wsX6_readLeaf) := goodIn_app (goodIn_of _ (by decide +kernel)) ggL_isNext_X6_readLeaf
set_option maxRecDepth 20000 in
theorem ggL_isNext_X6_undo : GoodIn wsL_isNext wsX6_undo := goodIn_ca (goodIn_r _ [179, 134, 135, 128, 180, 6, 181, 182, 183, 139, 184, 141, 143, 142, 144, 145, 146, 22, 147, 29, 148, 24, 149, 150, 151, 152, 153, 154, 155, 156, 33, 157, 36, 158, 159, 35, 160, 161, 162, 118, 163, 164, 165, 166, 167, 189, 190, 191, 192, 193, 204, 205, 206, 194, 195, 196, 197, 198, 199, 200, 201, 202, 203] (by decide +kernel) (by decide +kernel)) (goodIn_sub (fun _ h => List.mem_cons_of_mem _ (List.mem_append_right _ h)) (by decide +kernel))
set_option maxRecDepth 20000 in
theorem gL_isNext_X6_undo : GoodIn wsL_isNext (wsV RL 113 RX6 yX6_undo wsX6_undo) := goodIn_app (goodIn_of _ (by decide +kernel)) ggL_isNext_X6_undo
set_option maxRecDepth 20000 in
theorem ggL_isNext_X6_next : GoodIn wsL_isNext wsX6_next := goodIn_ca (goodIn_ca (goodIn_r _ [188, 128, 6, 17, 18, 7, 129, 8, 9, 4, 10, 11, 12, 130, 131, 132, 133, 134, 135, 19, 20, 21, 22, 23, 24, 136, 137, 138, 139, 140, 141, 142, 143, 144, 145, 146, 147, 29, 148, 149, 150, 151, 152, 153, 154, 155, 156, 33, 157, 36, 158, 159, 35, 160, 161, 162, 118, 163, 164, 165, 166, 167, 25, 26, 27, 28, 30, 31, 32, 34, 41, 42, 43, 44, 189, 190, 191, 192, 193, 194, 195, 196, 197, 198, 199, 200, 204, 205, 206, 201, 202, 203] (by decide +kernel) (by decide +kernel)) (goodIn_sub (fun _ h => List.mem_cons_of_mem _ (List.mem_append_left _ (List.mem_append_right _ h))) (by decide +kernel))) (goodIn_sub (fun _ h => List.mem_cons_of_mem _ (List.mem_append_right _ h)) (by decide +kernel))
set_option maxRecDepth 20000 in
theorem gL_isNext_X6_next : GoodIn wsL_isNext (wsV RL 78 RX6 yX6_next wsX6_next) := goodIn_app (goodIn_of _ (by decide +kernel)) ggL_isNext_X6_next
theorem dL_isNext_0 : decode cL_isNext 0 = .ok (.aload_n 0, 1) := by decide +kernel
theorem dL_isNext_1 : decode cL_isNext 1 = .ok (.iload_n 1, 1) := by decide +kernel
theorem dL_isNext_2 : decode cL_isNext 2 = .ok (.invokevirtual 41, 3) := by decide +kernel
theorem dL_isNext_5 : decode cL_isNext 5 = .ok (.istore_n 2, 1) := by decide +kernel
theorem dL_isNext_6 : decode cL_isNext 6 = .ok (.aload_n 0, 1) := by decide +kernel
theorem dL_isNext_7 : decode cL_isNext 7 = .ok (.iload_n 1, 1) := by decide +kernel
theorem dL_isNext_8 : decode cL_isNext 8 = .ok (.invokevirtual 103, 3) := by decide +kernel
theorem dL_isNext_11 : decode cL_isNext 11 = .ok (.istore_n 3, 1) := by decide +kernel
theorem dL_isNext_12 : decode cL_isNext 12 = .ok (.aload_n 0, 1) := by decide +kernel
theorem dL_isNext_13 : decode cL_isNext 13 = .ok (.iload_n 1, 1) := by decide +kernel
theorem dL_isNext_14 : decode cL_isNext 14 = .ok (.invokevirtual 106, 3) := by decide +kernel
theorem dL_isNext_17 : decode cL_isNext 17 = .ok (.istore 4, 2) := by decide +kernel
theorem dL_isNext_19 : decode cL_isNext 19 = .ok (.iload_n 2, 1) := by decide +kernel
theorem dL_isNext_20 : decode cL_isNext 20 = .ok (.bipush (-2), 2) := by decide +kernel
theorem dL_isNext_22 : decode cL_isNext 22 = .ok (.if_icmp .ne 22, 3) := by decide +kernel
theorem dL_isNext_25 : decode cL_isNext 25 = .ok (.iload_n 3, 1) := by decide +kernel
theorem dL_isNext_26 : decode cL_isNext 26 = .ok (.bipush (-2), 2) := by decide +kernel
theorem dL_isNext_28 : decode cL_isNext 28 = .ok (.if_icmp .ne 14, 3) := by decide +kernel
theorem dL_isNext_31 : decode cL_isNext 31 = .ok (.iload 4, 2) := by decide +kernel
theorem dL_isNext_33 : decode cL_isNext 33 = .ok (.bipush (-2), 2) := by decide +kernel
theorem dL_isNext_35 : decode cL_isNext 35 = .ok (.if_icmp .ne 7, 3) := by decide +kernel
theorem dL_isNext_38 : decode cL_isNext 38 = .ok (.iconst 1, 1) := by decide +kernel
theorem dL_isNext_39 : decode cL_isNext 39 = .ok (.goto 4, 3) := by decide +kernel
theorem dL_isNext_42 : decode cL_isNext 42 = .ok (.iconst 0, 1) := by decide +kernel
theorem dL_isNext_43 : decode cL_isNext 43 = .ok (.ireturn, 1) := by decide +kernel
theorem dL_isNext_44 : decode cL_isNext 44 = .ok (.iconst 0, 1) := by decide +kernel
theorem dL_isNext_45 : decode cL_isNext 45 = .ok (.istore 5, 2) := by decide +kernel
theorem dL_isNext_47 : decode cL_isNext 47 = .ok (.iconst 0, 1) := by decide +kernel
theorem dL_isNext_48 : decode cL_isNext 48 = .ok (.istore 6, 2) := by decide +kernel
theorem dL_isNext_50 : decode cL_isNext 50 = .ok (.iload 6, 2) := by decide +kernel
theorem dL_isNext_52 : decode cL_isNext 52 = .ok (.aload_n 0, 1) := by decide +kernel
theorem dL_isNext_53 : decode cL_isNext 53 = .ok (.invokevirtual 20, 3) := by decide +kernel
theorem dL_isNext_56 : decode cL_isNext 56 = .ok (.if_icmp .ge 44, 3) := by decide +kernel
theorem dL_isNext_59 : decode cL_isNext 59 = .ok (.iload 5, 2) := by decide +kernel
theorem dL_isNext_61 : decode cL_isNext 61 = .ok (.sipush 1000, 3) := by decide +kernel
theorem dL_isNext_64 : decode cL_isNext 64 = .ok (.aload_n 0, 1) := by decide +kernel
theorem dL_isNext_65 : decode cL_isNext 65 = .ok (.aload_n 0, 1) := by decide +kernel
theorem dL_isNext_66 : decode cL_isNext 66 = .ok (.iload 6, 2) := by decide +kernel
theorem dL_isNext_68 : decode cL_isNext 68 = .ok (.invokevirtual 23, 3) := by decide +kernel
theorem dL_isNext_71 : decode cL_isNext 71 = .ok (.invokevirtual 29, 3) := by decide +kernel
theorem dL_isNext_74 : decode cL_isNext 74 = .ok (.imul, 1) := by decide +kernel
theorem dL_isNext_75 : decode cL_isNext 75 = .ok (.aload_n 0, 1) := by decide +kernel
theorem dL_isNext_76 : decode cL_isNext 76 = .ok (.iload 6, 2) := by decide +kernel
theorem dL_isNext_78 : decode cL_isNext 78 = .ok (.invokevirtual 23, 3) := by decide +kernel
theorem dL_isNext_81 : decode cL_isNext 81 = .ok (.iadd, 1) := by decide +kernel
theorem dL_isNext_82 : decode cL_isNext 82 = .ok (.iload_n 2, 1) := by decide +kernel
theorem dL_isNext_83 : decode cL_isNext 83 = .ok (.if_icmp .le 7, 3) := by decide +kernel
theorem dL_isNext_86 : decode cL_isNext 86 = .ok (.iconst 1, 1) := by decide +kernel
theorem dL_isNext_87 : decode cL_isNext 87 = .ok (.goto 4, 3) := by decide +kernel
theorem dL_isNext_90 : decode cL_isNext 90 = .ok (.iconst 0, 1) := by decide +kernel
theorem dL_isNext_91 : decode cL_isNext 91 = .ok (.iadd, 1) := by decide +kernel
theorem dL_isNext_92 : decode cL_isNext 92 = .ok (.istore 5, 2) := by decide +kernel
theorem dL_isNext_94 : decode cL_isNext 94 = .ok (.iinc 6 1, 3) := by decide +kernel
theorem dL_isNext_97 : decode cL_isNext 97 = .ok (.goto (-47), 3) := by decide +kernel
theorem dL_isNext_100 : decode cL_isNext 100 = .ok (.iload_n 3, 1) := by decide +kernel
theorem dL_isNext_101 : decode cL_isNext 101 = .ok (.iload 5, 2) := by decide +kernel
theorem dL_isNext_103 : decode cL_isNext 103 = .ok (.if_icmp .ne 50, 3) := by decide +kernel
theorem dL_isNext_106 : decode cL_isNext 106 = .ok (.iload_n 3, 1) := by decide +kernel
theorem dL_isNext_107 : decode cL_isNext 107 = .ok (.ifCond .ne 7, 3) := by decide +kernel
theorem dL_isNext_110 : decode cL_isNext 110 = .ok (.iconst 1, 1) := by decide +kernel
theorem dL_isNext_111 : decode cL_isNext 111 = .ok (.goto 4, 3) := by decide +kernel
theorem dL_isNext_114 : decode cL_isNext 114 = .ok (.iconst 0, 1) := by decide +kernel
theorem dL_isNext_115 : decode cL_isNext 115 = .ok (.iload 4, 2) := by decide +kernel
theorem dL_isNext_117 : decode cL_isNext 117 = .ok (.bipush (-2), 2) := by decide +kernel
theorem dL_isNext_119 : decode cL_isNext 119 = .ok (.if_icmp .ne 7, 3) := by decide +kernel
theorem dL_isNext_122 : decode cL_isNext 122 = .ok (.iconst 1, 1) := by decide +kernel
theorem dL_isNext_123 : decode cL_isNext 123 = .ok (.goto 4, 3) := by decide +kernel
theorem dL_isNext_126 : decode cL_isNext 126 = .ok (.iconst 0, 1) := by decide +kernel
theorem dL_isNext_127 : decode cL_isNext 127 = .ok (.if_icmp .ne 26, 3) := by decide +kernel
theorem dL_isNext_130 : decode cL_isNext 130 = .ok (.iload_n 3, 1) := by decide +kernel
theorem dL_isNext_131 : decode cL_isNext 131 = .ok (.ifCond .eq 18, 3) := by decide +kernel
theorem dL_isNext_134 : decode cL_isNext 134 = .ok (.iload 4, 2) := by decide +kernel
theorem dL_isNext_136 : decode cL_isNext 136 = .ok (.aload_n 0, 1) := by decide +kernel
theorem dL_isNext_137 : decode cL_isNext 137 = .ok (.aload_n 0, 1) := by decide +kernel
theorem dL_isNext_138 : decode cL_isNext 138 = .ok (.invokevirtual 20, 3) := by decide +kernel
theorem dL_isNext_141 : decode cL_isNext 141 = .ok (.iload_n 3, 1) := by decide +kernel
theorem dL_isNext_142 : decode cL_isNext 142 = .ok (.isub, 1) := by decide +kernel
theorem dL_isNext_143 : decode cL_isNext 143 = .ok (.invokevirtual 23, 3) := by decide +kernel
theorem dL_isNext_146 : decode cL_isNext 146 = .ok (.if_icmp .ne 7, 3) := by decide +kernel
theorem dL_isNext_149 : decode cL_isNext 149 = .ok (.iconst 1, 1) := by decide +kernel
theorem dL_isNext_150 : decode cL_isNext 150 = .ok (.goto 4, 3) := by decide +kernel
theorem dL_isNext_153 : decode cL_isNext 153 = .ok (.iconst 0, 1) := by decide +kernel
theorem dL_isNext_154 : decode cL_isNext 154 = .ok (.istore 6, 2) := by decide +kernel
theorem dL_isNext_156 : decode cL_isNext 156 = .ok (.aload_n 0, 1) := by decide +kernel
theorem dL_isNext_157 : decode cL_isNext 157 = .ok (.invokestatic 109, 3) := by decide +kernel
theorem dL_isNext_160 : decode cL_isNext 160 = .ok (.lstore 7, 2) := by decide +kernel
theorem dL_isNext_162 : decode cL_isNext 162 = .ok (.iload 4, 2) := by decide +kernel
theorem dL_isNext_164 : decode cL_isNext 164 = .ok (.bipush (-2), 2) := by decide +kernel
theorem dL_isNext_166 : decode cL_isNext 166 = .ok (.if_icmp .ne 7, 3) := by decide +kernel
theorem dL_isNext_169 : decode cL_isNext 169 = .ok (.iconst 0, 1) := by decide +kernel
theorem dL_isNext_170 : decode cL_isNext 170 = .ok (.goto 13, 3) := by decide +kernel
theorem dL_isNext_173 : decode cL_isNext 173 = .ok (.aload_n 0, 1) := by decide +kernel
theorem dL_isNext_174 : decode cL_isNext 174 = .ok (.aload_n 0, 1) := by decide +kernel
theorem dL_isNext_175 : decode cL_isNext 175 = .ok (.iload 4, 2) := by decide +kernel
theorem dL_isNext_177 : decode cL_isNext 177 = .ok (.invokevirtual 29, 3) := by decide +kernel
theorem dL_isNext_180 : decode cL_isNext 180 = .ok (.invokevirtual 96, 3) := by decide +kernel
theorem dL_isNext_183 : decode cL_isNext 183 = .ok (.istore 9, 2) := by decide +kernel
theorem dL_isNext_185 : decode cL_isNext 185 = .ok (.aload_n 0, 1) := by decide +kernel
theorem dL_isNext_186 : decode cL_isNext 186 = .ok (.iload_n 1, 1) := by decide +kernel
theorem dL_isNext_187 : decode cL_isNext 187 = .ok (.invokevirtual 75, 3) := by decide +kernel
theorem dL_isNext_190 : decode cL_isNext 190 = .ok (.istore 10, 2) := by decide +kernel
theorem dL_isNext_192 : decode cL_isNext 192 = .ok (.iload 6, 2) := by decide +kernel
theorem dL_isNext_194 : decode cL_isNext 194 = .ok (.ifCond .eq 71, 3) := by decide +kernel
theorem dL_isNext_197 : decode cL_isNext 197 = .ok (.iload 10, 2) := by decide +kernel
theorem dL_isNext_199 : decode cL_isNext 199 = .ok (.iload_n 3, 1) := by decide +kernel
theorem dL_isNext_200 : decode cL_isNext 200 = .ok (.if_icmp .gt 65, 3) := by decide +kernel
theorem dL_isNext_203 : decode cL_isNext 203 = .ok (.iload 10, 2) := by decide +kernel
theorem dL_isNext_205 : decode cL_isNext 205 = .ok (.iload 9, 2) := by decide +kernel
theorem dL_isNext_207 : decode cL_isNext 207 = .ok (.if_icmp .gt 58, 3) := by decide +kernel
theorem dL_isNext_210 : decode cL_isNext 210 = .ok (.iload 10, 2) := by decide +kernel
theorem dL_isNext_212 : decode cL_isNext 212 = .ok (.ifCond .ne 7, 3) := by decide +kernel
theorem dL_isNext_215 : decode cL_isNext 215 = .ok (.iconst 1, 1) := by decide +kernel
theorem dL_isNext_216 : decode cL_isNext 216 = .ok (.goto 4, 3) := by decide +kernel
theorem dL_isNext_219 : decode cL_isNext 219 = .ok (.iconst 0, 1) := by decide +kernel
theorem dL_isNext_220 : decode cL_isNext 220 = .ok (.iload_n 3, 1) := by decide +kernel
theorem dL_isNext_221 : decode cL_isNext 221 = .ok (.ifCond .ne 7, 3) := by decide +kernel
theorem dL_isNext_224 : decode cL_isNext 224 = .ok (.iconst 1, 1) := by decide +kernel
theorem dL_isNext_225 : decode cL_isNext 225 = .ok (.goto 4, 3) := by decide +kernel
theorem dL_isNext_228 : decode cL_isNext 228 = .ok (.iconst 0, 1) := by decide +kernel
theorem dL_isNext_229 : decode cL_isNext 229 = .ok (.if_icmp .ne 36, 3) := by decide +kernel
theorem dL_isNext_232 : decode cL_isNext 232 = .ok (.aload_n 0, 1) := by decide +kernel
theorem dL_isNext_233 : decode cL_isNext 233 = .ok (.iload_n 1, 1) := by decide +kernel
theorem dL_isNext_234 : decode cL_isNext 234 = .ok (.invokevirtual 103, 3) := by decide +kernel
theorem dL_isNext_237 : decode cL_isNext 237 = .ok (.iload_n 3, 1) := by decide +kernel
theorem dL_isNext_238 : decode cL_isNext 238 = .ok (.iload 10, 2) := by decide +kernel
theorem dL_isNext_240 : decode cL_isNext 240 = .ok (.isub, 1) := by decide +kernel
theorem dL_isNext_241 : decode cL_isNext 241 = .ok (.if_icmp .ne 24, 3) := by decide +kernel
theorem dL_isNext_244 : decode cL_isNext 244 = .ok (.aload_n 0, 1) := by decide +kernel
theorem dL_isNext_245 : decode cL_isNext 245 = .ok (.invokevirtual 113, 3) := by decide +kernel
theorem dL_isNext_248 : decode cL_isNext 248 = .ok (.ifCond .lt 17, 3) := by decide +kernel
theorem dL_isNext_251 : decode cL_isNext 251 = .ok (.aload_n 0, 1) := by decide +kernel
theorem dL_isNext_252 : decode cL_isNext 252 = .ok (.invokestatic 109, 3) := by decide +kernel
theorem dL_isNext_255 : decode cL_isNext 255 = .ok (.lload 7, 2) := by decide +kernel
theorem dL_isNext_257 : decode cL_isNext 257 = .ok (.lcmp, 1) := by decide +kernel
theorem dL_isNext_258 : decode cL_isNext 258 = .ok (.ifCond .ne 7, 3) := by decide +kernel
theorem dL_isNext_261 : decode cL_isNext 261 = .ok (.iconst 1, 1) := by decide +kernel
theorem dL_isNext_262 : decode cL_isNext 262 = .ok (.goto 4, 3) := by decide +kernel
theorem dL_isNext_265 : decode cL_isNext 265 = .ok (.iconst 0, 1) := by decide +kernel
theorem dL_isNext_266 : decode cL_isNext 266 = .ok (.istore 6, 2) := by decide +kernel
theorem dL_isNext_268 : decode cL_isNext 268 = .ok (.iload 6, 2) := by decide +kernel
theorem dL_isNext_270 : decode cL_isNext 270 = .ok (.ifCond .eq 65, 3) := by decide +kernel
theorem dL_isNext_273 : decode cL_isNext 273 = .ok (.aload_n 0, 1) := by decide +kernel
theorem dL_isNext_274 : decode cL_isNext 274 = .ok (.iload_n 1, 1) := by decide +kernel
theorem dL_isNext_275 : decode cL_isNext 275 = .ok (.invokevirtual 78, 3) := by decide +kernel
theorem dL_isNext_278 : decode cL_isNext 278 = .ok (.iload 4, 2) := by decide +kernel
theorem dL_isNext_280 : decode cL_isNext 280 = .ok (.if_icmp .ne 55, 3) := by decide +kernel
theorem dL_isNext_283 : decode cL_isNext 283 = .ok (.aload_n 0, 1) := by decide +kernel
theorem dL_isNext_284 : decode cL_isNext 284 = .ok (.iload_n 1, 1) := by decide +kernel
theorem dL_isNext_285 : decode cL_isNext 285 = .ok (.invokevirtual 103, 3) := by decide +kernel
theorem dL_isNext_288 : decode cL_isNext 288 = .ok (.iload_n 3, 1) := by decide +kernel
theorem dL_isNext_289 : decode cL_isNext 289 = .ok (.ifCond .ne 7, 3) := by decide +kernel
theorem dL_isNext_292 : decode cL_isNext 292 = .ok (.iconst 0, 1) := by decide +kernel
theorem dL_isNext_293 : decode cL_isNext 293 = .ok (.goto 6, 3) := by decide +kernel
theorem dL_isNext_296 : decode cL_isNext 296 = .ok (.iload_n 3, 1) := by decide +kernel
theorem dL_isNext_297 : decode cL_isNext 297 = .ok (.iconst 1, 1) := by decide +kernel
theorem dL_isNext_298 : decode cL_isNext 298 = .ok (.isub, 1) := by decide +kernel
theorem dL_isNext_299 : decode cL_isNext 299 = .ok (.if_icmp .ne 36, 3) := by decide +kernel
theorem dL_isNext_302 : decode cL_isNext 302 = .ok (.aload_n 0, 1) := by decide +kernel
theorem dL_isNext_303 : decode cL_isNext 303 = .ok (.iload_n 1, 1) := by decide +kernel
theorem dL_isNext_304 : decode cL_isNext 304 = .ok (.invokevirtual 41, 3) := by decide +kernel
theorem dL_isNext_307 : decode cL_isNext 307 = .ok (.iload_n 3, 1) := by decide +kernel
theorem dL_isNext_308 : decode cL_isNext 308 = .ok (.ifCond .ne 7, 3) := by decide +kernel
theorem dL_isNext_311 : decode cL_isNext 311 = .ok (.iload_n 2, 1) := by decide +kernel
theorem dL_isNext_312 : decode cL_isNext 312 = .ok (.goto 16, 3) := by decide +kernel
theorem dL_isNext_315 : decode cL_isNext 315 = .ok (.sipush 1000, 3) := by decide +kernel
theorem dL_isNext_318 : decode cL_isNext 318 = .ok (.aload_n 0, 1) := by decide +kernel
theorem dL_isNext_319 : decode cL_isNext 319 = .ok (.iload 4, 2) := by decide +kernel
theorem dL_isNext_321 : decode cL_isNext 321 = .ok (.invokevirtual 29, 3) := by decide +kernel
theorem dL_isNext_324 : decode cL_isNext 324 = .ok (.imul, 1) := by decide +kernel
theorem dL_isNext_325 : decode cL_isNext 325 = .ok (.iload 4, 2) := by decide +kernel
theorem dL_isNext_327 : decode cL_isNext 327 = .ok (.iadd, 1) := by decide +kernel
theorem dL_isNext_328 : decode cL_isNext 328 = .ok (.if_icmp .ne 7, 3) := by decide +kernel
theorem dL_isNext_331 : decode cL_isNext 331 = .ok (.iconst 1, 1) := by decide +kernel
theorem dL_isNext_332 : decode cL_isNext 332 = .ok (.goto 4, 3) := by decide +kernel
theorem dL_isNext_335 : decode cL_isNext 335 = .ok (.iconst 0, 1) := by decide +kernel
theorem dL_isNext_336 : decode cL_isNext 336 = .ok (.istore 6, 2) := by decide +kernel
theorem dL_isNext_338 : decode cL_isNext 338 = .ok (.iload 6, 2) := by decide +kernel
theorem dL_isNext_340 : decode cL_isNext 340 = .ok (.ifCond .eq 24, 3) := by decide +kernel
theorem dL_isNext_343 : decode cL_isNext 343 = .ok (.aload_n 0, 1) := by decide +kernel
theorem dL_isNext_344 : decode cL_isNext 344 = .ok (.invokevirtual 113, 3) := by decide +kernel
theorem dL_isNext_347 : decode cL_isNext 347 = .ok (.ifCond .lt 17, 3) := by decide +kernel
theorem dL_isNext_350 : decode cL_isNext 350 = .ok (.aload_n 0, 1) := by decide +kernel
theorem dL_isNext_351 : decode cL_isNext 351 = .ok (.invokestatic 109, 3) := by decide +kernel
theorem dL_isNext_354 : decode cL_isNext 354 = .ok (.lload 7, 2) := by decide +kernel
theorem dL_isNext_356 : decode cL_isNext 356 = .ok (.lcmp, 1) := by decide +kernel
theorem dL_isNext_357 : decode cL_isNext 357 = .ok (.ifCond .ne 7, 3) := by decide +kernel
theorem dL_isNext_360 : decode cL_isNext 360 = .ok (.iconst 1, 1) := by decide +kernel
theorem dL_isNext_361 : decode cL_isNext 361 = .ok (.goto 4, 3) := by decide +kernel
theorem dL_isNext_364 : decode cL_isNext 364 = .ok (.iconst 0, 1) := by decide +kernel
theorem dL_isNext_365 : decode cL_isNext 365 = .ok (.ireturn, 1) := by decide +kernel
set_option maxRecDepth 20000 in
theorem ggL_isAdded_L_told : GoodIn wsL_isAdded wsL_told := goodIn_ca (goodIn_r _ [4, 5, 6, 7, 8, 9, 10, 11, 12, 13, 14, 15, 16, 17, 18, 19, 20, 21, 22, 23, 24, 25, 26, 27, 28, 29, 30, 31, 32, 33, 34, 35, 36, 37, 38, 39, 40, 41, 42, 43, 44, 45, 46, 47, 48, 49, 50, 51, 52, 53, 54, 55, 56, 57, 58, 59, 60, 61, 62, 63, 64, 65, 66, 67, 68, 69, 70, 71, 72, 73, 74, 75, 76, 77, 78, 79, 80, 81, 82, 83, 84, 285, 286, 287, 288, 289, 290, 291, 292, 293, 294, 295, 296, 297, 298, 299] (by decide +kernel) (by decide +kernel)) (goodIn_sub (fun _ h => List.mem_cons_of_mem _ (List.mem_append_left _ (List.mem_append_left _ (List.mem_append_right _ h)))) (by decide +kernel))
set_option maxRecDepth 20000 in
theorem gL_isAdded_L_told : GoodIn wsL_isAdded (va_wsS RL 109 yL_told wsL_told) := goodIn_app (goodIn_of _ (by decide +kernel)) ggL_isAdded_L_told
set_option maxRecDepth 20000 in
theorem ggL_isAdded_L_types : GoodIn wsL_isAdded wsL_types := goodIn_ca (goodIn_ca (goodIn_r _ [87, 88, 89, 90, 11, 91, 92, 93, 94, 95, 96, 97, 98, 99, 100, 101, 102, 103, 104, 105, 106, 107, 108, 109, 110, 111, 112, 285, 286, 287, 288, 289, 300, 301] (by decide +kernel) (by decide +kernel)) (goodIn_sub (fun _ h => List.mem_cons_of_mem _ (List.mem_append_left _ (List.mem_append_right _ h))) (by decide +kernel))) (goodIn_sub (fun _ h => List.mem_cons_of_mem _ (List.mem_append_right _ h)) (by decide +kernel))
set_option maxRecDepth 20000 in
theorem gL_isAdded_L_types : GoodIn wsL_isAdded (va_wsS RL 55 yL_types wsL_types) := goodIn_app (goodIn_of _ (by decide +kernel)) ggL_isAdded_L_types
set_option maxRecDepth 20000 in
theorem ggL_isAdded_X6_find : GoodIn wsL_isAdded wsX6_find := goodIn_ca (goodIn_r _ [116, 13, 25, 117, 118, 119, 11, 120, 104, 105, 92, 93, 121, 122, 123, 97, 124, 112, 125, 126, 64, 127, 128, 129, 130, 66, 67, 68, 131, 132, 133, 36, 134, 51, 135, 33, 34, 35, 37, 38, 285, 286, 287, 288, 289, 290, 291, 292, 293, 300, 301, 297, 298, 299] (by decide +kernel) (by decide +kernel)) (goodIn_sub (fun _ h => List.mem_cons_of_mem _ (List.mem_append_left _ (List.mem_append_right _ h))) (by decide +kernel))
set_option maxRecDepth 20000 in
theorem gL_isAdded_X6_find : GoodIn wsL_isAdded (wsV RL 59 RX6 yX6_find wsX6_find) := goodIn_app (goodIn_of _ (by decide +kernel)) ggL_isAdded_X6_find
set_option maxRecDepth 20000 in
theorem ggL_isAdded_X6_entries : GoodIn wsL_isAdded wsX6_entries := goodIn_r _ [24, 13, 25, 26, 285, 286, 287, 288, 289, 290, 291, 292, 293, 297, 298, 299] (by decide +kernel) (by decide +kernel)
set_option maxRecDepth 20000 in
theorem gL_isAdded_X6_entries : GoodIn wsL_isAdded (wsV RL 20 RX6 yX6_entries wsX6_entries) := goodIn_app (goodIn_of _ (by decide +kernel)) ggL_isAdded_X6_entries
set_option maxRecDepth 20000 in
theorem ggL_isAdded_X6_hashOfText : GoodIn wsL_isAdded wsX6_hashOfText := goodIn_ca (goodIn_r _ [139, 117, 118, 119, 11, 120, 104, 105, 92, 93, 121, 122, 123, 97, 124, 112, 125, 126, 64, 127, 128, 129, 130, 66, 67, 68, 140, 141, 142, 143, 63, 65, 285, 286, 287, 288, 289, 300, 301] (by decide +kernel) (by decide +kernel)) (goodIn_sub (fun _ h => List.mem_cons_of_mem _ (List.mem_append_left _ (List.mem_append_right _ h))) (by decide +kernel))
set_option maxRecDepth 20000 in
theorem gL_isAdded_X6_hashOfText : GoodIn wsL_isAdded (wsV RL 116 RX6 yX6_hashOfText wsX6_hashOfText) := goodIn_app (goodIn_of _ (by decide +kernel)) ggL_isAdded_X6_hashOfText
set_option maxRecDepth 20000 in
theorem ggL_isAdded_X6_leavesIfAdded : GoodIn wsL_isAdded wsX6_leavesIfAdded := goodIn_ca (goodIn_ca (goodIn_r _ [147, 13, 14, 25, 117, 118, 119, 11, 120, 104, 105, 92, 93, 121, 122, 123, 97, 124, 112, 125, 126, 64, 127, 128, 129, 130, 66, 67, 68, 148, 149, 150, 151, 106, 107, 152, 153, 154, 155, 156, 157, 158, 159, 160, 36, 161, 51, 162, 163, 164, 165, 166, 167, 132, 133, 134, 135, 140, 141, 142, 143, 63, 65, 168, 169, 170, 171, 172, 173, 174, 175, 176, 177, 178, 179, 180, 181, 182, 183, 184, 185, 186, 187, 38, 188, 189, 190, 191, 192, 285, 286, 287, 288, 289, 290, 291, 292, 293, 300, 301, 297, 298, 299, 294, 295, 296] (by decide +kernel) (by decide +kernel)) (goodIn_sub (fun _ h => List.mem_cons_of_mem _ (List.mem_append_left _ (List.mem_append_right _ h))) (by decide +kernel))) (goodIn_sub (fun _ h => List.mem_cons_of_mem _ (List.mem_append_right _ h)) (by decide +kernel))
set_option maxRecDepth 20000 in
theorem gL_isAdded_X6_leavesIfAdded : GoodIn wsL_isAdded (wsV RL 119 RX6 yX6_leavesIfAdded wsX6_leavesIfAdded) := goodIn_app (goodIn_of _ (by decide +kernel)) ggL_isAdded_X6_leavesIfAdded
set_option maxRecDepth 20000 in
theorem ggL_isAdded_X6_splits : GoodIn wsL_isAdded wsX6_splits := goodIn_r _ [12, 13, 14, 15, 285, 286, 287, 288, 289, 290, 291, 292, 293, 294, 295, 296] (by decide +kernel) (by decide +kernel)
set_option maxRecDepth 20000 in
theorem gL_isAdded_X6_splits : GoodIn wsL_isAdded (wsV RL 11 RX6 yX6_splits wsX6_splits) := goodIn_app (goodIn_of _ (by decide +kernel)) ggL_isAdded_X6_splits
set_option maxRecDepth 20000 in
theorem ggL_isAdded_X6_add : GoodIn wsL_isAdded wsX6_add := goodIn_ca (goodIn_ca (goodIn_r _ [196, 197, 13, 92, 117, 118, 119, 11, 120, 104, 105, 93, 121, 122, 123, 97, 124, 112, 125, 126, 64, 127, 128, 129, 130, 66, 67, 68, 148, 149, 150, 151, 106, 107, 152, 153, 154, 155, 156, 157, 158, 159, 160, 36, 161, 51, 162, 163, 164, 165, 166, 167, 132, 133, 134, 135, 198, 199, 200, 201, 202, 203, 204, 205, 206, 207, 208, 209, 210, 211, 212, 213, 214, 215, 216, 217, 218, 219, 38, 220, 221, 222, 223, 171, 224, 173, 225, 226, 227, 94, 95, 96, 98, 99, 228, 229, 230, 231, 232, 141, 142, 143, 63, 65, 233, 234, 235, 236, 184, 185, 186, 187, 237, 238, 239, 240, 174, 175, 176, 177, 178, 179, 180, 181, 182, 183, 241, 242, 243, 244, 245, 192, 285, 286, 287, 288, 289, 300, 301, 290, 291, 292, 293, 297, 298, 299, 302, 303, 304, 294, 295, 296] (by decide +kernel) (by decide +kernel)) (goodIn_sub (fun _ h => List.mem_cons_of_mem _ (List.mem_append_left _ (List.mem_append_right _ h))) (by decide +kernel))) (goodIn_sub (fun _ h => List.mem_cons_of_mem _ (List.mem_append_right _ h)) (by decide +kernel))
set_option maxRecDepth 20000 in
theorem gL_isAdded_X6_add : GoodIn wsL_isAdded (wsV RL 87 RX6 yX6_add wsX6_add) := goodIn_app (goodIn_of _ (by decide +kernel)) ggL_isAdded_X6_add
set_option maxRecDepth 20000 in
theorem ggL_isAdded_X6_leaves : GoodIn wsL_isAdded wsX6_leaves := goodIn_r _ [249, 13, 14, 250, 189, 190, 171, 191, 173, 192, 179, 180, 285, 286, 287, 288, 289, 290, 291, 292, 293, 294, 295, 296] (by decide +kernel) (by decide +kernel)
set_option maxRecDepth 20000 in
theorem gL_isAdded_X6_leaves : GoodIn wsL_isAdded (wsV RL 90 RX6 yX6_leaves wsX6_leaves) := goodIn_app (goodIn_of _ (by decide +kernel)) ggL_isAdded_X6_leaves
set_option maxRecDepth 20000 in
theorem ggL_isAdded_X6_merges : GoodIn wsL_isAdded wsX6_merges := goodIn_r _ [19, 13, 14, 20, 285, 286, 287, 288, 289, 290, 291, 292, 293, 294, 295, 296] (by decide +kernel) (by decide +kernel)
set_option maxRecDepth 20000 in
theorem gL_isAdded_X6_merges : GoodIn wsL_isAdded (wsV RL 17 RX6 yX6_merges wsX6_merges) := goodIn_app (goodIn_of _ (by decide +kernel)) ggL_isAdded_X6_merges
set_option maxRecDepth 20000 in
theorem ggL_isAdded_X6_hashOf : GoodIn wsL_isAdded wsX6_hashOf := goodIn_ca (goodIn_r _ [42, 13, 25, 43, 44, 45, 11, 46, 31, 32, 47, 48, 49, 36, 50, 51, 52, 34, 35, 37, 38, 53, 54, 55, 56, 285, 286, 287, 288, 289, 290, 291, 292, 293, 297, 298, 299] (by decide +kernel) (by decide +kernel)) (goodIn_sub (fun _ h => List.mem_cons_of_mem _ (List.mem_append_left _ (List.mem_append_left _ (List.mem_append_right _ h)))) (by decide +kernel))
set_option maxRecDepth 20000 in
theorem gL_isAdded_X6_hashOf : GoodIn wsL_isAdded (wsV RL 29 RX6 yX6_hashOf wsX6_hashOf) := goodIn_app (goodIn_of _ (by decide +kernel)) ggL_isAdded_X6_hashOf
set_option maxRecDepth 20000 in
theorem ggL_isAdded_X6_remove : GoodIn wsL_isAdded wsX6_remove := goodIn_ca (goodIn_r _ [254, 197, 13, 25, 26, 43, 44, 45, 11, 46, 31, 32, 47, 48, 49, 36, 50, 51, 52, 34, 35, 37, 38, 198, 199, 200, 201, 202, 203, 204, 205, 206, 207, 208, 155, 209, 157, 210, 211, 212, 213, 214, 215, 166, 216, 217, 218, 219, 220, 135, 221, 222, 223, 171, 224, 173, 225, 226, 227, 255, 256, 257, 258, 259, 54, 55, 56, 260, 261, 262, 263, 264, 265, 266, 267, 268, 269, 270, 174, 175, 176, 177, 178, 179, 180, 181, 182, 183, 184, 185, 186, 187, 241, 242, 243, 244, 245, 192, 285, 286, 287, 288, 289, 290, 291, 292, 293, 297, 298, 299, 302, 303, 304, 294, 295, 296] (by decide +kernel) (by decide +kernel)) (goodIn_sub (fun _ h => List.mem_cons_of_mem _ (List.mem_append_left _ (List.mem_append_left _ (List.mem_append_right _ h)))) (by decide +kernel))
set_option maxRecDepth 20000 in
theorem gL_isAdded_X6_remove : GoodIn wsL_isAdded (wsV RL 65 RX6 yX6_remove wsX6_remove) := goodIn_app (goodIn_of _ (by decide +kernel)) ggL_isAdded_X6_remove
set_option maxRecDepth 20000 in
theorem ggL_isAdded_X6_depthOf : GoodIn wsL_isAdded wsX6_depthOf := goodIn_ca (goodIn_r _ [72, 13, 14, 73, 74, 75, 11, 76, 31, 32, 285, 286, 287, 288, 289, 290, 291, 292, 293, 294, 295, 296] (by decide +kernel) (by decide +kernel)) (goodIn_sub (fun _ h => List.mem_cons_of_mem _ (List.mem_append_left _ (List.mem_append_left _ (List.mem_append_right _ h)))) (by decide +kernel))
set_option maxRecDepth 20000 in
theorem gL_isAdded_X6_depthOf : GoodIn wsL_isAdded (wsV RL 38 RX6 yX6_depthOf wsX6_depthOf) := goodIn_app (goodIn_of _ (by decide +kernel)) ggL_isAdded_X6_depthOf
set_option maxRecDepth 20000 in
theorem ggL_isAdded_X6_leafSize : GoodIn wsL_isAdded wsX6_leafSize := goodIn_ca (goodIn_r _ [274, 13, 25, 14, 73, 74, 75, 11, 76, 31, 32, 275, 175, 176, 36, 177, 178, 179, 171, 180, 181, 182, 183, 184, 185, 186, 187, 51, 38, 285, 286, 287, 288, 289, 290, 291, 292, 293, 294, 295, 296, 297, 298, 299] (by decide +kernel) (by decide +kernel)) (goodIn_sub (fun _ h => List.mem_cons_of_mem _ (List.mem_append_left _ (List.mem_append_left _ (List.mem_append_right _ h)))) (by decide +kernel))
set_option maxRecDepth 20000 in
theorem gL_isAdded_X6_leafSize : GoodIn wsL_isAdded (wsV RL 96 RX6 yX6_leafSize wsX6_leafSize) := goodIn_app (goodIn_of _ (by decide +kernel)) ggL_isAdded_X6_leafSize
set_option maxRecDepth 20000 in
theorem ggL_isAdded_X6_undo : GoodIn wsL_isAdded wsX6_undo := goodIn_ca (goodIn_r _ [279, 106, 107, 197, 280, 13, 281, 282, 283, 201, 284, 203, 205, 204, 206, 207, 208, 155, 209, 157, 210, 211, 212, 213, 214, 215, 166, 216, 217, 218, 36, 219, 38, 220, 135, 51, 221, 222, 223, 171, 224, 173, 225, 226, 227, 285, 286, 287, 288, 289, 302, 303, 304, 290, 291, 292, 293, 297, 298, 299, 294, 295, 296] (by decide +kernel) (by decide +kernel)) (goodIn_sub (fun _ h => List.mem_cons_of_mem _ (List.mem_append_right _ h)) (by decide +kernel))
set_option maxRecDepth 20000 in
theorem gL_isAdded_X6_undo : GoodIn wsL_isAdded (wsV RL 113 RX6 yX6_undo wsX6_undo) := goodIn_app (goodIn_of _ (by decide +kernel)) ggL_isAdded_X6_undo
theorem dL_isAdded_0 : decode cL_isAdded 0 = .ok (.aload_n 0, 1) := by decide +kernel
theorem dL_isAdded_1 : decode cL_isAdded 1 = .ok (.invokestatic 109, 3) := by decide +kernel
theorem dL_isAdded_4 : decode cL_isAdded 4 = .ok (.lstore_n 2, 1) := by decide +kernel
theorem dL_isAdded_5 : decode cL_isAdded 5 = .ok (.aload_n 0, 1) := by decide +kernel
theorem dL_isAdded_6 : decode cL_isAdded 6 = .ok (.iload_n 1, 1) := by decide +kernel
theorem dL_isAdded_7 : decode cL_isAdded 7 = .ok (.invokestatic 55, 3) := by decide +kernel
theorem dL_isAdded_10 : decode cL_isAdded 10 = .ok (.istore 4, 2) := by decide +kernel
theorem dL_isAdded_12 : decode cL_isAdded 12 = .ok (.iload 4, 2) := by decide +kernel
theorem dL_isAdded_14 : decode cL_isAdded 14 = .ok (.ifCond .lt 21, 3) := by decide +kernel
theorem dL_isAdded_17 : decode cL_isAdded 17 = .ok (.aload_n 0, 1) := by decide +kernel
theorem dL_isAdded_18 : decode cL_isAdded 18 = .ok (.invokevirtual 59, 3) := by decide +kernel
theorem dL_isAdded_21 : decode cL_isAdded 21 = .ok (.bipush (-2), 2) := by decide +kernel
theorem dL_isAdded_23 : decode cL_isAdded 23 = .ok (.if_icmp .ne 12, 3) := by decide +kernel
theorem dL_isAdded_26 : decode cL_isAdded 26 = .ok (.aload_n 0, 1) := by decide +kernel
theorem dL_isAdded_27 : decode cL_isAdded 27 = .ok (.invokevirtual 20, 3) := by decide +kernel
theorem dL_isAdded_30 : decode cL_isAdded 30 = .ok (.bipush 40, 2) := by decide +kernel
theorem dL_isAdded_32 : decode cL_isAdded 32 = .ok (.if_icmp .ne 18, 3) := by decide +kernel
theorem dL_isAdded_35 : decode cL_isAdded 35 = .ok (.aload_n 0, 1) := by decide +kernel
theorem dL_isAdded_36 : decode cL_isAdded 36 = .ok (.invokevirtual 59, 3) := by decide +kernel
theorem dL_isAdded_39 : decode cL_isAdded 39 = .ok (.bipush (-2), 2) := by decide +kernel
theorem dL_isAdded_41 : decode cL_isAdded 41 = .ok (.if_icmp .lt 7, 3) := by decide +kernel
theorem dL_isAdded_44 : decode cL_isAdded 44 = .ok (.iconst 1, 1) := by decide +kernel
theorem dL_isAdded_45 : decode cL_isAdded 45 = .ok (.goto 4, 3) := by decide +kernel
theorem dL_isAdded_48 : decode cL_isAdded 48 = .ok (.iconst 0, 1) := by decide +kernel
theorem dL_isAdded_49 : decode cL_isAdded 49 = .ok (.ireturn, 1) := by decide +kernel
theorem dL_isAdded_50 : decode cL_isAdded 50 = .ok (.aload_n 0, 1) := by decide +kernel
theorem dL_isAdded_51 : decode cL_isAdded 51 = .ok (.invokevirtual 116, 3) := by decide +kernel
theorem dL_isAdded_54 : decode cL_isAdded 54 = .ok (.istore 5, 2) := by decide +kernel
theorem dL_isAdded_56 : decode cL_isAdded 56 = .ok (.aload_n 0, 1) := by decide +kernel
theorem dL_isAdded_57 : decode cL_isAdded 57 = .ok (.invokevirtual 119, 3) := by decide +kernel
theorem dL_isAdded_60 : decode cL_isAdded 60 = .ok (.istore 6, 2) := by decide +kernel
theorem dL_isAdded_62 : decode cL_isAdded 62 = .ok (.aload_n 0, 1) := by decide +kernel
theorem dL_isAdded_63 : decode cL_isAdded 63 = .ok (.invokevirtual 11, 3) := by decide +kernel
theorem dL_isAdded_66 : decode cL_isAdded 66 = .ok (.istore 7, 2) := by decide +kernel
theorem dL_isAdded_68 : decode cL_isAdded 68 = .ok (.aload_n 0, 1) := by decide +kernel
theorem dL_isAdded_69 : decode cL_isAdded 69 = .ok (.invokevirtual 87, 3) := by decide +kernel
theorem dL_isAdded_72 : decode cL_isAdded 72 = .ok (.istore 8, 2) := by decide +kernel
theorem dL_isAdded_74 : decode cL_isAdded 74 = .ok (.aload_n 0, 1) := by decide +kernel
theorem dL_isAdded_75 : decode cL_isAdded 75 = .ok (.invokevirtual 90, 3) := by decide +kernel
theorem dL_isAdded_78 : decode cL_isAdded 78 = .ok (.iload 6, 2) := by decide +kernel
theorem dL_isAdded_80 : decode cL_isAdded 80 = .ok (.if_icmp .ne 57, 3) := by decide +kernel
theorem dL_isAdded_83 : decode cL_isAdded 83 = .ok (.aload_n 0, 1) := by decide +kernel
theorem dL_isAdded_84 : decode cL_isAdded 84 = .ok (.invokevirtual 11, 3) := by decide +kernel
theorem dL_isAdded_87 : decode cL_isAdded 87 = .ok (.iload 7, 2) := by decide +kernel
theorem dL_isAdded_89 : decode cL_isAdded 89 = .ok (.iload 6, 2) := by decide +kernel
theorem dL_isAdded_91 : decode cL_isAdded 91 = .ok (.iadd, 1) := by decide +kernel
theorem dL_isAdded_92 : decode cL_isAdded 92 = .ok (.iconst 1, 1) := by decide +kernel
theorem dL_isAdded_93 : decode cL_isAdded 93 = .ok (.iload 7, 2) := by decide +kernel
theorem dL_isAdded_95 : decode cL_isAdded 95 = .ok (.iadd, 1) := by decide +kernel
theorem dL_isAdded_96 : decode cL_isAdded 96 = .ok (.aload_n 0, 1) := by decide +kernel
theorem dL_isAdded_97 : decode cL_isAdded 97 = .ok (.invokevirtual 17, 3) := by decide +kernel
theorem dL_isAdded_100 : decode cL_isAdded 100 = .ok (.isub, 1) := by decide +kernel
theorem dL_isAdded_101 : decode cL_isAdded 101 = .ok (.isub, 1) := by decide +kernel
theorem dL_isAdded_102 : decode cL_isAdded 102 = .ok (.if_icmp .ne 35, 3) := by decide +kernel
theorem dL_isAdded_105 : decode cL_isAdded 105 = .ok (.aload_n 0, 1) := by decide +kernel
theorem dL_isAdded_106 : decode cL_isAdded 106 = .ok (.iload 8, 2) := by decide +kernel
theorem dL_isAdded_108 : decode cL_isAdded 108 = .ok (.invokevirtual 29, 3) := by decide +kernel
theorem dL_isAdded_111 : decode cL_isAdded 111 = .ok (.iload 5, 2) := by decide +kernel
theorem dL_isAdded_113 : decode cL_isAdded 113 = .ok (.if_icmp .ne 24, 3) := by decide +kernel
theorem dL_isAdded_116 : decode cL_isAdded 116 = .ok (.aload_n 0, 1) := by decide +kernel
theorem dL_isAdded_117 : decode cL_isAdded 117 = .ok (.iload_n 1, 1) := by decide +kernel
theorem dL_isAdded_118 : decode cL_isAdded 118 = .ok (.invokestatic 55, 3) := by decide +kernel
theorem dL_isAdded_121 : decode cL_isAdded 121 = .ok (.ifCond .lt 16, 3) := by decide +kernel
theorem dL_isAdded_124 : decode cL_isAdded 124 = .ok (.aload_n 0, 1) := by decide +kernel
theorem dL_isAdded_125 : decode cL_isAdded 125 = .ok (.invokevirtual 59, 3) := by decide +kernel
theorem dL_isAdded_128 : decode cL_isAdded 128 = .ok (.iload 8, 2) := by decide +kernel
theorem dL_isAdded_130 : decode cL_isAdded 130 = .ok (.if_icmp .ne 7, 3) := by decide +kernel
theorem dL_isAdded_133 : decode cL_isAdded 133 = .ok (.iconst 1, 1) := by decide +kernel
theorem dL_isAdded_134 : decode cL_isAdded 134 = .ok (.goto 4, 3) := by decide +kernel
theorem dL_isAdded_137 : decode cL_isAdded 137 = .ok (.iconst 0, 1) := by decide +kernel
theorem dL_isAdded_138 : decode cL_isAdded 138 = .ok (.istore 9, 2) := by decide +kernel
theorem dL_isAdded_140 : decode cL_isAdded 140 = .ok (.iload 9, 2) := by decide +kernel
theorem dL_isAdded_142 : decode cL_isAdded 142 = .ok (.ifCond .eq 25, 3) := by decide +kernel
theorem dL_isAdded_145 : decode cL_isAdded 145 = .ok (.aload_n 0, 1) := by decide +kernel
theorem dL_isAdded_146 : decode cL_isAdded 146 = .ok (.iload 8, 2) := by decide +kernel
theorem dL_isAdded_148 : decode cL_isAdded 148 = .ok (.invokevirtual 65, 3) := by decide +kernel
theorem dL_isAdded_151 : decode cL_isAdded 151 = .ok (.ifCond .lt 16, 3) := by decide +kernel
theorem dL_isAdded_154 : decode cL_isAdded 154 = .ok (.aload_n 0, 1) := by decide +kernel
theorem dL_isAdded_155 : decode cL_isAdded 155 = .ok (.invokevirtual 59, 3) := by decide +kernel
theorem dL_isAdded_158 : decode cL_isAdded 158 = .ok (.bipush (-2), 2) := by decide +kernel
theorem dL_isAdded_160 : decode cL_isAdded 160 = .ok (.if_icmp .ne 7, 3) := by decide +kernel
theorem dL_isAdded_163 : decode cL_isAdded 163 = .ok (.iconst 1, 1) := by decide +kernel
theorem dL_isAdded_164 : decode cL_isAdded 164 = .ok (.goto 4, 3) := by decide +kernel
theorem dL_isAdded_167 : decode cL_isAdded 167 = .ok (.iconst 0, 1) := by decide +kernel
theorem dL_isAdded_168 : decode cL_isAdded 168 = .ok (.istore 9, 2) := by decide +kernel
theorem dL_isAdded_170 : decode cL_isAdded 170 = .ok (.aload_n 0, 1) := by decide +kernel
theorem dL_isAdded_171 : decode cL_isAdded 171 = .ok (.iload 5, 2) := by decide +kernel
theorem dL_isAdded_173 : decode cL_isAdded 173 = .ok (.invokevirtual 38, 3) := by decide +kernel
theorem dL_isAdded_176 : decode cL_isAdded 176 = .ok (.istore 10, 2) := by decide +kernel
theorem dL_isAdded_178 : decode cL_isAdded 178 = .ok (.bipush 64, 2) := by decide +kernel
theorem dL_isAdded_180 : decode cL_isAdded 180 = .ok (.iload 10, 2) := by decide +kernel
theorem dL_isAdded_182 : decode cL_isAdded 182 = .ok (.ishr, 1) := by decide +kernel
theorem dL_isAdded_183 : decode cL_isAdded 183 = .ok (.istore 11, 2) := by decide +kernel
theorem dL_isAdded_185 : decode cL_isAdded 185 = .ok (.iload 5, 2) := by decide +kernel
theorem dL_isAdded_187 : decode cL_isAdded 187 = .ok (.iload 11, 2) := by decide +kernel
theorem dL_isAdded_189 : decode cL_isAdded 189 = .ok (.idiv, 1) := by decide +kernel
theorem dL_isAdded_190 : decode cL_isAdded 190 = .ok (.iconst 2, 1) := by decide +kernel
theorem dL_isAdded_191 : decode cL_isAdded 191 = .ok (.irem, 1) := by decide +kernel
theorem dL_isAdded_192 : decode cL_isAdded 192 = .ok (.ifCond .ne 17, 3) := by decide +kernel
theorem dL_isAdded_195 : decode cL_isAdded 195 = .ok (.iload 5, 2) := by decide +kernel
theorem dL_isAdded_197 : decode cL_isAdded 197 = .ok (.iload 11, 2) := by decide +kernel
theorem dL_isAdded_199 : decode cL_isAdded 199 = .ok (.idiv, 1) := by decide +kernel
theorem dL_isAdded_200 : decode cL_isAdded 200 = .ok (.iload 11, 2) := by decide +kernel
theorem dL_isAdded_202 : decode cL_isAdded 202 = .ok (.imul, 1) := by decide +kernel
theorem dL_isAdded_203 : decode cL_isAdded 203 = .ok (.iload 11, 2) := by decide +kernel
theorem dL_isAdded_205 : decode cL_isAdded 205 = .ok (.iadd, 1) := by decide +kernel
theorem dL_isAdded_206 : decode cL_isAdded 206 = .ok (.goto 14, 3) := by decide +kernel
theorem dL_isAdded_209 : decode cL_isAdded 209 = .ok (.iload 5, 2) := by decide +kernel
theorem dL_isAdded_211 : decode cL_isAdded 211 = .ok (.iload 11, 2) := by decide +kernel
theorem dL_isAdded_213 : decode cL_isAdded 213 = .ok (.idiv, 1) := by decide +kernel
theorem dL_isAdded_214 : decode cL_isAdded 214 = .ok (.iload 11, 2) := by decide +kernel
theorem dL_isAdded_216 : decode cL_isAdded 216 = .ok (.imul, 1) := by decide +kernel
theorem dL_isAdded_217 : decode cL_isAdded 217 = .ok (.iload 11, 2) := by decide +kernel
theorem dL_isAdded_219 : decode cL_isAdded 219 = .ok (.isub, 1) := by decide +kernel
theorem dL_isAdded_220 : decode cL_isAdded 220 = .ok (.istore 12, 2) := by decide +kernel
theorem dL_isAdded_222 : decode cL_isAdded 222 = .ok (.iload 9, 2) := by decide +kernel
theorem dL_isAdded_224 : decode cL_isAdded 224 = .ok (.ifCond .eq 40, 3) := by decide +kernel
theorem dL_isAdded_227 : decode cL_isAdded 227 = .ok (.iload 10, 2) := by decide +kernel
theorem dL_isAdded_229 : decode cL_isAdded 229 = .ok (.ifCond .eq 31, 3) := by decide +kernel
theorem dL_isAdded_232 : decode cL_isAdded 232 = .ok (.aload_n 0, 1) := by decide +kernel
theorem dL_isAdded_233 : decode cL_isAdded 233 = .ok (.iload 12, 2) := by decide +kernel
theorem dL_isAdded_235 : decode cL_isAdded 235 = .ok (.invokevirtual 38, 3) := by decide +kernel
theorem dL_isAdded_238 : decode cL_isAdded 238 = .ok (.iload 10, 2) := by decide +kernel
theorem dL_isAdded_240 : decode cL_isAdded 240 = .ok (.if_icmp .ne 20, 3) := by decide +kernel
theorem dL_isAdded_243 : decode cL_isAdded 243 = .ok (.aload_n 0, 1) := by decide +kernel
theorem dL_isAdded_244 : decode cL_isAdded 244 = .ok (.iload 5, 2) := by decide +kernel
theorem dL_isAdded_246 : decode cL_isAdded 246 = .ok (.invokevirtual 96, 3) := by decide +kernel
theorem dL_isAdded_249 : decode cL_isAdded 249 = .ok (.aload_n 0, 1) := by decide +kernel
theorem dL_isAdded_250 : decode cL_isAdded 250 = .ok (.iload 12, 2) := by decide +kernel
theorem dL_isAdded_252 : decode cL_isAdded 252 = .ok (.invokevirtual 96, 3) := by decide +kernel
theorem dL_isAdded_255 : decode cL_isAdded 255 = .ok (.iadd, 1) := by decide +kernel
theorem dL_isAdded_256 : decode cL_isAdded 256 = .ok (.iconst 2, 1) := by decide +kernel
theorem dL_isAdded_257 : decode cL_isAdded 257 = .ok (.if_icmp .le 7, 3) := by decide +kernel
theorem dL_isAdded_260 : decode cL_isAdded 260 = .ok (.iconst 1, 1) := by decide +kernel
theorem dL_isAdded_261 : decode cL_isAdded 261 = .ok (.goto 4, 3) := by decide +kernel
theorem dL_isAdded_264 : decode cL_isAdded 264 = .ok (.iconst 0, 1) := by decide +kernel
theorem dL_isAdded_265 : decode cL_isAdded 265 = .ok (.istore 9, 2) := by decide +kernel
theorem dL_isAdded_267 : decode cL_isAdded 267 = .ok (.iload 9, 2) := by decide +kernel
theorem dL_isAdded_269 : decode cL_isAdded 269 = .ok (.ifCond .eq 30, 3) := by decide +kernel
theorem dL_isAdded_272 : decode cL_isAdded 272 = .ok (.aload_n 0, 1) := by decide +kernel
theorem dL_isAdded_273 : decode cL_isAdded 273 = .ok (.invokevirtual 113, 3) := by decide +kernel
theorem dL_isAdded_276 : decode cL_isAdded 276 = .ok (.ifCond .lt 23, 3) := by decide +kernel
theorem dL_isAdded_279 : decode cL_isAdded 279 = .ok (.aload_n 0, 1) := by decide +kernel
theorem dL_isAdded_280 : decode cL_isAdded 280 = .ok (.invokevirtual 113, 3) := by decide +kernel
theorem dL_isAdded_283 : decode cL_isAdded 283 = .ok (.ifCond .lt 16, 3) := by decide +kernel
theorem dL_isAdded_286 : decode cL_isAdded 286 = .ok (.aload_n 0, 1) := by decide +kernel
theorem dL_isAdded_287 : decode cL_isAdded 287 = .ok (.invokestatic 109, 3) := by decide +kernel
theorem dL_isAdded_290 : decode cL_isAdded 290 = .ok (.lload_n 2, 1) := by decide +kernel
theorem dL_isAdded_291 : decode cL_isAdded 291 = .ok (.lcmp, 1) := by decide +kernel
theorem dL_isAdded_292 : decode cL_isAdded 292 = .ok (.ifCond .ne 7, 3) := by decide +kernel
theorem dL_isAdded_295 : decode cL_isAdded 295 = .ok (.iconst 1, 1) := by decide +kernel
theorem dL_isAdded_296 : decode cL_isAdded 296 = .ok (.goto 4, 3) := by decide +kernel
theorem dL_isAdded_299 : decode cL_isAdded 299 = .ok (.iconst 0, 1) := by decide +kernel
theorem dL_isAdded_300 : decode cL_isAdded 300 = .ok (.ireturn, 1) := by decide +kernel
set_option maxRecDepth 20000 in
theorem ggL_law_X6_init : GoodIn wsL_law wsX6_init := goodIn_r _ [5, 6, 7, 8, 9, 10, 11, 12, 13, 14, 15, 16, 17, 18, 19, 20, 21, 22, 23, 24, 25, 26, 27, 28, 29, 30, 31, 32, 33, 34, 35, 36, 37, 38, 39, 40, 41, 42, 43, 44, 45, 46, 47, 48, 49, 50, 51, 52, 53, 54, 55, 56, 57, 58, 59, 60, 61, 62, 63, 64, 435, 436, 437, 438, 430, 431, 432, 433, 434, 439, 440, 441, 442, 443, 444, 445, 446, 447, 448, 449] (by decide +kernel) (by decide +kernel)
set_option maxRecDepth 20000 in
theorem gL_law_X6_init : GoodIn wsL_law (wsX6_init) := ggL_law_X6_init
set_option maxRecDepth 20000 in
theorem ggL_law_X6_save : GoodIn wsL_law wsX6_save := goodIn_ca (goodIn_r _ [68, 17, 12, 19, 69, 70, 71, 72, 2, 73, 74, 75, 76, 77, 78, 11, 79, 31, 35, 37, 80, 81, 82, 83, 38, 84, 85, 86, 30, 87, 42, 88, 43, 44, 89, 90, 91, 34, 92, 48, 93, 49, 50, 430, 431, 432, 433, 434, 435, 436, 437, 438, 444, 445, 446, 447, 448, 449] (by decide +kernel) (by decide +kernel)) (goodIn_sub (fun _ h => List.mem_append_left _ (List.mem_append_left _ (List.mem_append_right _ h))) (by decide +kernel))
set_option maxRecDepth 20000 in
theorem gL_law_X6_save : GoodIn wsL_law (wsV RL 123 RX6 yX6_save wsX6_save) := goodIn_app (goodIn_of _ (by decide +kernel)) ggL_law_X6_save
set_option maxRecDepth 20000 in
theorem ggL_law_L_holds : GoodIn wsL_law wsL_holds := goodIn_ca (goodIn_r _ [97, 98, 99, 100, 2, 101, 12, 69, 70, 102, 103, 104, 105, 106, 107, 108, 109, 34, 110, 48, 111, 112, 113, 114, 115, 116, 117, 118, 119, 120, 121, 122, 123, 124, 125, 126, 127, 128, 129, 130, 131, 74, 75, 132, 133, 134, 135, 136, 137, 138, 30, 139, 140, 141, 142, 143, 144, 145, 146, 147, 44, 42, 148, 149, 150, 151, 152, 153, 154, 155, 156, 157, 158, 159, 160, 161, 162, 163, 164, 165, 166, 167, 168, 169, 170, 171, 172, 173, 174, 175, 176, 177, 178, 179, 180, 181, 182, 183, 184, 185, 186, 187, 188, 189, 190, 191, 192, 430, 431, 432, 433, 434, 435, 436, 437, 438, 444, 445, 446, 447, 448, 449] (by decide +kernel) (by decide +kernel)) (goodIn_sub (fun _ h => List.mem_append_left _ (List.mem_append_left _ (List.mem_append_right _ h))) (by decide +kernel))
set_option maxRecDepth 20000 in
theorem gL_law_L_holds : GoodIn wsL_law (va_wsS RL 126 yL_holds wsL_holds) := goodIn_app (goodIn_of _ (by decide +kernel)) ggL_law_L_holds
set_option maxRecDepth 20000 in
theorem ggL_law_L_cell : GoodIn wsL_law wsL_cell := goodIn_r _ [195, 196] (by decide +kernel) (by decide +kernel)
set_option maxRecDepth 20000 in
theorem gL_law_L_cell : GoodIn wsL_law (va_wsS RL 130 yL_cell wsL_cell) := goodIn_app (goodIn_of _ (by decide +kernel)) ggL_law_L_cell
set_option maxRecDepth 20000 in
theorem ggL_law_L_told : GoodIn wsL_law wsL_told := goodIn_ca (goodIn_r _ [199, 200, 201, 202, 114, 115, 116, 2, 117, 12, 106, 118, 119, 120, 121, 122, 123, 98, 99, 100, 101, 69, 70, 152, 153, 154, 155, 74, 75, 156, 157, 158, 30, 159, 42, 160, 161, 162, 163, 164, 165, 166, 167, 168, 169, 170, 171, 44, 172, 173, 174, 175, 176, 177, 178, 179, 180, 181, 182, 183, 184, 185, 186, 187, 188, 124, 125, 126, 127, 128, 129, 130, 131, 203, 204, 205, 206, 207, 208, 209, 210, 430, 431, 432, 433, 434, 435, 436, 437, 438, 447, 448, 449, 444, 445, 446] (by decide +kernel) (by decide +kernel)) (goodIn_sub (fun _ h => List.mem_append_left _ (List.mem_append_left _ (List.mem_append_right _ h))) (by decide +kernel))
set_option maxRecDepth 20000 in
theorem gL_law_L_told : GoodIn wsL_law (va_wsS RL 109 yL_told wsL_told) := goodIn_app (goodIn_of _ (by decide +kernel)) ggL_law_L_told
set_option maxRecDepth 20000 in
theorem ggL_law_X6_savedStates : GoodIn wsL_law wsX6_savedStates := goodIn_r _ [214, 16, 215, 430, 431, 432, 433, 434, 439, 440, 441] (by decide +kernel) (by decide +kernel)
set_option maxRecDepth 20000 in
theorem gL_law_X6_savedStates : GoodIn wsL_law (wsV RL 134 RX6 yX6_savedStates wsX6_savedStates) := goodIn_app (goodIn_of _ (by decide +kernel)) ggL_law_X6_savedStates
set_option maxRecDepth 20000 in
theorem ggL_law_L_act : GoodIn wsL_law wsL_act := goodIn_ca (goodIn_ca (goodIn_ca (goodIn_r _ [218, 219, 220, 221, 96, 222, 223, 224, 225, 226, 227, 228, 229, 2, 230, 23, 231, 232, 233, 234, 22, 235, 64, 236, 237, 238, 239, 240, 241, 242, 243, 244, 245, 246, 247, 63, 248, 249, 250, 251, 12, 69, 252, 253, 254, 255, 256, 257, 258, 259, 260, 261, 184, 262, 263, 264, 265, 186, 187, 188, 266, 267, 268, 30, 269, 44, 43, 156, 157, 158, 159, 42, 98, 99, 100, 101, 70, 270, 271, 272, 273, 16, 207, 208, 209, 210, 74, 75, 274, 275, 276, 15, 277, 58, 57, 56, 278, 77, 78, 11, 79, 31, 35, 37, 80, 81, 82, 83, 38, 84, 85, 86, 87, 88, 89, 90, 91, 34, 92, 48, 93, 49, 50, 279, 280, 281, 282, 283, 284, 285, 286, 152, 153, 154, 155, 287, 288, 289, 290, 164, 165, 166, 167, 168, 169, 170, 171, 172, 291, 292, 293, 294, 295, 174, 175, 176, 296, 297, 298, 299, 300, 301, 302, 303, 304, 305, 306, 307, 137, 138, 139, 140, 112, 113, 141, 142, 143, 144, 145, 146, 147, 308, 309, 310, 311, 312, 111, 313, 314, 315, 316, 317, 318, 319, 320, 321, 322, 323, 324, 325, 326, 327, 328, 329, 183, 185, 330, 331, 332, 333, 334, 335, 336, 337, 203, 204, 205, 206, 338, 339, 340, 341, 342, 343, 344, 345, 346, 347, 348, 349, 350, 351, 352, 353, 354, 355, 356, 357, 358, 359, 360, 361, 362, 363, 364, 365, 366, 367, 368, 369, 370, 371, 372, 373, 374, 375, 376, 19, 17, 71, 72, 73, 76, 377, 378, 379, 380, 381, 382, 383, 384, 385, 386, 387, 388, 389, 390, 391, 392, 393, 430, 431, 432, 433, 434, 442, 443, 435, 436, 437, 438, 444, 445, 446, 439, 440, 441, 447, 448, 449] (by decide +kernel) (by decide +kernel)) (goodIn_sub (fun _ h => List.mem_append_left _ (List.mem_append_right _ h)) (by decide +kernel))) (goodIn_sub (fun _ h => List.mem_append_right _ h) (by decide +kernel))) (goodIn_sub (fun _ h => List.mem_append_left _ (List.mem_append_left _ (List.mem_append_right _ h))) (by decide +kernel))
set_option maxRecDepth 20000 in
theorem gL_law_L_act : GoodIn wsL_law (va_wsS RL 137 yL_act wsL_act) := goodIn_app (goodIn_of _ (by decide +kernel)) ggL_law_L_act
set_option maxRecDepth 20000 in
theorem ggL_law_X6_undo : GoodIn wsL_law wsX6_undo := goodIn_ca (goodIn_r _ [397, 242, 243, 16, 215, 12, 398, 399, 400, 15, 401, 58, 56, 57, 278, 77, 78, 11, 79, 31, 35, 37, 80, 81, 82, 83, 38, 84, 85, 86, 30, 87, 42, 88, 43, 44, 89, 90, 91, 34, 92, 48, 93, 49, 50, 430, 431, 432, 433, 434, 439, 440, 441, 435, 436, 437, 438, 444, 445, 446, 447, 448, 449] (by decide +kernel) (by decide +kernel)) (goodIn_sub (fun _ h => List.mem_append_right _ h) (by decide +kernel))
set_option maxRecDepth 20000 in
theorem gL_law_X6_undo : GoodIn wsL_law (wsV RL 113 RX6 yX6_undo wsX6_undo) := goodIn_app (goodIn_of _ (by decide +kernel)) ggL_law_X6_undo
set_option maxRecDepth 20000 in
theorem ggL_law_L_up : GoodIn wsL_law wsL_up := goodIn_r _ [222, 223] (by decide +kernel) (by decide +kernel)
set_option maxRecDepth 20000 in
theorem gL_law_L_up : GoodIn wsL_law (va_wsS RL 50 yL_up wsL_up) := goodIn_app (goodIn_of _ (by decide +kernel)) ggL_law_L_up
set_option maxRecDepth 20000 in
theorem ggL_law_L_isNext : GoodIn wsL_law wsL_isNext := goodIn_ca (goodIn_ca (goodIn_r _ [404, 203, 204, 205, 2, 206, 12, 207, 208, 209, 210, 74, 75, 405, 406, 407, 408, 69, 70, 347, 284, 285, 11, 286, 37, 353, 354, 355, 356, 31, 357, 145, 146, 30, 147, 44, 42, 409, 410, 411, 412, 156, 157, 158, 159, 98, 99, 100, 101, 152, 153, 154, 155, 160, 161, 162, 163, 164, 165, 166, 167, 168, 169, 170, 171, 172, 173, 174, 175, 176, 197, 198, 96, 199, 200, 201, 202, 114, 115, 116, 117, 106, 118, 119, 120, 121, 122, 123, 177, 178, 179, 180, 181, 182, 183, 184, 185, 186, 187, 188, 124, 125, 126, 127, 128, 129, 130, 131, 148, 149, 150, 151, 136, 137, 138, 139, 140, 112, 34, 113, 141, 142, 143, 144, 348, 349, 350, 351, 16, 352, 343, 344, 345, 346, 242, 243, 274, 275, 276, 15, 277, 58, 57, 56, 278, 77, 78, 79, 35, 80, 81, 82, 83, 38, 84, 85, 86, 87, 88, 43, 89, 90, 91, 92, 48, 93, 49, 50, 358, 359, 360, 361, 362, 363, 295, 364, 394, 395, 396, 397, 215, 398, 399, 400, 401, 365, 366, 367, 368, 430, 431, 432, 433, 434, 435, 436, 437, 438, 444, 445, 446, 447, 448, 449, 439, 440, 441] (by decide +kernel) (by decide +kernel)) (goodIn_sub (fun _ h => List.mem_append_left _ (List.mem_append_left _ (List.mem_append_right _ h))) (by decide +kernel))) (goodIn_sub (fun _ h => List.mem_append_right _ h) (by decide +kernel))
set_option maxRecDepth 20000 in
theorem gL_law_L_isNext : GoodIn wsL_law (va_wsS RL 141 yL_isNext wsL_isNext) := goodIn_app (goodIn_of _ (by decide +kernel)) ggL_law_L_isNext
set_option maxRecDepth 20000 in
theorem ggL_law_L_isAdded : GoodIn wsL_law wsL_isAdded := goodIn_ca (goodIn_ca (goodIn_ca (goodIn_r _ [415, 197, 198, 96, 199, 200, 201, 202, 114, 115, 116, 2, 117, 12, 106, 118, 119, 120, 121, 122, 123, 98, 99, 100, 101, 69, 70, 152, 153, 154, 155, 74, 75, 156, 157, 158, 30, 159, 42, 160, 161, 162, 163, 164, 165, 166, 167, 168, 169, 170, 171, 44, 172, 173, 174, 175, 176, 177, 178, 179, 180, 181, 182, 183, 184, 185, 186, 187, 188, 124, 125, 126, 127, 128, 129, 130, 131, 203, 204, 205, 206, 207, 208, 209, 210, 224, 225, 226, 227, 228, 229, 230, 23, 231, 232, 233, 234, 22, 235, 64, 236, 237, 238, 239, 240, 241, 242, 243, 244, 245, 246, 247, 63, 248, 249, 250, 251, 252, 253, 254, 255, 256, 257, 258, 259, 260, 261, 262, 263, 264, 265, 266, 267, 268, 269, 43, 416, 417, 418, 419, 420, 327, 328, 329, 421, 422, 423, 424, 381, 382, 383, 384, 385, 386, 387, 11, 388, 31, 389, 390, 391, 392, 393, 318, 319, 320, 38, 321, 425, 426, 427, 34, 428, 48, 307, 137, 138, 139, 140, 112, 113, 141, 142, 143, 144, 145, 146, 147, 429, 108, 109, 110, 111, 377, 378, 379, 380, 16, 274, 275, 276, 15, 277, 58, 57, 56, 278, 77, 78, 79, 35, 37, 80, 81, 82, 83, 84, 85, 86, 87, 88, 89, 90, 91, 92, 93, 49, 50, 322, 323, 324, 325, 326, 330, 331, 332, 333, 334, 335, 336, 337, 308, 309, 310, 311, 312, 102, 103, 104, 105, 107, 287, 288, 289, 290, 291, 292, 293, 294, 295, 296, 297, 298, 299, 300, 301, 302, 303, 304, 305, 306, 148, 149, 150, 151, 136, 394, 395, 396, 397, 215, 398, 399, 400, 401, 430, 431, 432, 433, 434, 435, 436, 437, 438, 447, 448, 449, 444, 445, 446, 442, 443, 439, 440, 441] (by decide +kernel) (by decide +kernel)) (goodIn_sub (fun _ h => List.mem_append_left _ (List.mem_append_left _ (List.mem_append_right _ h))) (by decide +kernel))) (goodIn_sub (fun _ h => List.mem_append_left _ (List.mem_append_right _ h)) (by decide +kernel))) (goodIn_sub (fun _ h => List.mem_append_right _ h) (by decide +kernel))
set_option maxRecDepth 20000 in
theorem gL_law_L_isAdded : GoodIn wsL_law (va_wsS RL 145 yL_isAdded wsL_isAdded) := goodIn_app (goodIn_of _ (by decide +kernel)) ggL_law_L_isAdded
set_option maxRecDepth 20000 in
theorem ggL_law_X6_entries : GoodIn wsL_law wsX6_entries := goodIn_r _ [101, 12, 69, 70, 430, 431, 432, 433, 434, 435, 436, 437, 438, 444, 445, 446] (by decide +kernel) (by decide +kernel)
set_option maxRecDepth 20000 in
theorem gL_law_X6_entries : GoodIn wsL_law (wsV RL 20 RX6 yX6_entries wsX6_entries) := goodIn_app (goodIn_of _ (by decide +kernel)) ggL_law_X6_entries
