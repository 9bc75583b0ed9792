theorem dL_leavesIfAdded_0 : decode cL_leavesIfAdded 0 = .ok (.aload_n 1, 1) := by decide +kernel
theorem dL_leavesIfAdded_1 : decode cL_leavesIfAdded 1 = .ok (.iconst 0, 1) := by decide +kernel
theorem dL_leavesIfAdded_2 : decode cL_leavesIfAdded 2 = .ok (.aload_n 0, 1) := by decide +kernel
theorem dL_leavesIfAdded_3 : decode cL_leavesIfAdded 3 = .ok (.invokevirtual 81, 3) := by decide +kernel
theorem dL_leavesIfAdded_6 : decode cL_leavesIfAdded 6 = .ok (.i2l, 1) := by decide +kernel
theorem dL_leavesIfAdded_7 : decode cL_leavesIfAdded 7 = .ok (.lastore, 1) := by decide +kernel
theorem dL_leavesIfAdded_8 : decode cL_leavesIfAdded 8 = .ok (.goto 9, 3) := by decide +kernel
theorem dL_leavesIfAdded_11 : decode cL_leavesIfAdded 11 = .ok (.astore_n 2, 1) := by decide +kernel
theorem dL_leavesIfAdded_12 : decode cL_leavesIfAdded 12 = .ok (.iconst 1, 1) := by decide +kernel
theorem dL_leavesIfAdded_13 : decode cL_leavesIfAdded 13 = .ok (.ireturn, 1) := by decide +kernel
theorem dL_leavesIfAdded_14 : decode cL_leavesIfAdded 14 = .ok (.astore_n 2, 1) := by decide +kernel
theorem dL_leavesIfAdded_15 : decode cL_leavesIfAdded 15 = .ok (.iconst 2, 1) := by decide +kernel
theorem dL_leavesIfAdded_16 : decode cL_leavesIfAdded 16 = .ok (.ireturn, 1) := by decide +kernel
theorem dL_leavesIfAdded_17 : decode cL_leavesIfAdded 17 = .ok (.iconst 0, 1) := by decide +kernel
theorem dL_leavesIfAdded_18 : decode cL_leavesIfAdded 18 = .ok (.ireturn, 1) := by decide +kernel
set_option maxRecDepth 20000 in
theorem ggL_position_X6_position : GoodIn wsL_position wsX6_position := goodIn_ca (goodIn_r _ [6, 7, 8, 9, 10, 5, 11, 12, 13, 14, 15, 16, 17, 18, 19, 20, 21, 22] (by decide +kernel) (by decide +kernel)) (goodIn_sub (fun _ h => List.mem_cons_of_mem _ (List.mem_append_right _ h)) (by decide +kernel))
set_option maxRecDepth 20000 in
theorem gL_position_X6_position : GoodIn wsL_position (wsV RL 84 RX6 yX6_position wsX6_position) := goodIn_app (goodIn_of _ (by decide +kernel)) ggL_position_X6_position
theorem dL_position_0 : decode cL_position 0 = .ok (.aload_n 2, 1) := by decide +kernel
theorem dL_position_1 : decode cL_position 1 = .ok (.iconst 0, 1) := by decide +kernel
theorem dL_position_2 : decode cL_position 2 = .ok (.aload_n 0, 1) := by decide +kernel
theorem dL_position_3 : decode cL_position 3 = .ok (.iload_n 1, 1) := by decide +kernel
theorem dL_position_4 : decode cL_position 4 = .ok (.invokevirtual 84, 3) := by decide +kernel
theorem dL_position_7 : decode cL_position 7 = .ok (.i2l, 1) := by decide +kernel
theorem dL_position_8 : decode cL_position 8 = .ok (.lastore, 1) := by decide +kernel
theorem dL_position_9 : decode cL_position 9 = .ok (.goto 6, 3) := by decide +kernel
theorem dL_position_12 : decode cL_position 12 = .ok (.astore_n 3, 1) := by decide +kernel
theorem dL_position_13 : decode cL_position 13 = .ok (.iconst 1, 1) := by decide +kernel
theorem dL_position_14 : decode cL_position 14 = .ok (.ireturn, 1) := by decide +kernel
theorem dL_position_15 : decode cL_position 15 = .ok (.iconst 0, 1) := by decide +kernel
theorem dL_position_16 : decode cL_position 16 = .ok (.ireturn, 1) := by decide +kernel
set_option maxRecDepth 20000 in
theorem ggL_peek_X6_peek : GoodIn wsL_peek wsX6_peek := goodIn_ca (goodIn_r _ [6, 7, 8, 9, 10, 11, 5, 12, 13, 14, 15, 16, 17, 18, 19, 20, 21, 22, 23, 24, 25, 26, 27, 28, 29, 30, 31, 32, 33, 34, 35, 36, 37, 38, 39, 40, 41, 42, 43, 44, 45, 46, 47, 48] (by decide +kernel) (by decide +kernel)) (goodIn_sub (fun _ h => List.mem_cons_of_mem _ (List.mem_append_right _ h)) (by decide +kernel))
set_option maxRecDepth 20000 in
theorem gL_peek_X6_peek : GoodIn wsL_peek (wsV RL 87 RX6 yX6_peek wsX6_peek) := goodIn_app (goodIn_of _ (by decide +kernel)) ggL_peek_X6_peek
theorem dL_peek_0 : decode cL_peek 0 = .ok (.aload_n 2, 1) := by decide +kernel
theorem dL_peek_1 : decode cL_peek 1 = .ok (.iconst 0, 1) := by decide +kernel
theorem dL_peek_2 : decode cL_peek 2 = .ok (.aload_n 0, 1) := by decide +kernel
theorem dL_peek_3 : decode cL_peek 3 = .ok (.iload_n 1, 1) := by decide +kernel
theorem dL_peek_4 : decode cL_peek 4 = .ok (.invokevirtual 87, 3) := by decide +kernel
theorem dL_peek_7 : decode cL_peek 7 = .ok (.i2l, 1) := by decide +kernel
theorem dL_peek_8 : decode cL_peek 8 = .ok (.lastore, 1) := by decide +kernel
theorem dL_peek_9 : decode cL_peek 9 = .ok (.goto 6, 3) := by decide +kernel
theorem dL_peek_12 : decode cL_peek 12 = .ok (.astore_n 3, 1) := by decide +kernel
theorem dL_peek_13 : decode cL_peek 13 = .ok (.iconst 1, 1) := by decide +kernel
theorem dL_peek_14 : decode cL_peek 14 = .ok (.ireturn, 1) := by decide +kernel
theorem dL_peek_15 : decode cL_peek 15 = .ok (.iconst 0, 1) := by decide +kernel
theorem dL_peek_16 : decode cL_peek 16 = .ok (.ireturn, 1) := by decide +kernel
set_option maxRecDepth 20000 in
theorem ggL_remaining_X6_remaining : GoodIn wsL_remaining wsX6_remaining := goodIn_ca (goodIn_r _ [6, 7, 8, 9, 10, 11, 5, 12, 13, 14, 15, 16, 17, 18, 19, 20, 21, 22, 23, 24, 25, 26, 27, 28, 29, 30, 31, 32, 33, 34, 35, 36, 37, 38, 39, 40, 41, 42, 43, 44] (by decide +kernel) (by decide +kernel)) (goodIn_sub (fun _ h => List.mem_cons_of_mem _ (List.mem_append_right _ h)) (by decide +kernel))
set_option maxRecDepth 20000 in
theorem gL_remaining_X6_remaining : GoodIn wsL_remaining (wsV RL 90 RX6 yX6_remaining wsX6_remaining) := goodIn_app (goodIn_of _ (by decide +kernel)) ggL_remaining_X6_remaining
theorem dL_remaining_0 : decode cL_remaining 0 = .ok (.aload_n 2, 1) := by decide +kernel
theorem dL_remaining_1 : decode cL_remaining 1 = .ok (.iconst 0, 1) := by decide +kernel
theorem dL_remaining_2 : decode cL_remaining 2 = .ok (.aload_n 0, 1) := by decide +kernel
theorem dL_remaining_3 : decode cL_remaining 3 = .ok (.iload_n 1, 1) := by decide +kernel
theorem dL_remaining_4 : decode cL_remaining 4 = .ok (.invokevirtual 90, 3) := by decide +kernel
theorem dL_remaining_7 : decode cL_remaining 7 = .ok (.i2l, 1) := by decide +kernel
theorem dL_remaining_8 : decode cL_remaining 8 = .ok (.lastore, 1) := by decide +kernel
theorem dL_remaining_9 : decode cL_remaining 9 = .ok (.goto 6, 3) := by decide +kernel
theorem dL_remaining_12 : decode cL_remaining 12 = .ok (.astore_n 3, 1) := by decide +kernel
theorem dL_remaining_13 : decode cL_remaining 13 = .ok (.iconst 1, 1) := by decide +kernel
theorem dL_remaining_14 : decode cL_remaining 14 = .ok (.ireturn, 1) := by decide +kernel
theorem dL_remaining_15 : decode cL_remaining 15 = .ok (.iconst 0, 1) := by decide +kernel
theorem dL_remaining_16 : decode cL_remaining 16 = .ok (.ireturn, 1) := by decide +kernel
set_option maxRecDepth 20000 in
theorem ggL_law_X6_init : GoodIn wsL_law wsX6_init := goodIn_r _ [9, 10, 11, 12, 13, 14, 15, 16, 17, 18, 19, 20, 21, 22, 23, 24, 25, 26, 27, 28, 29, 30, 31, 32, 33, 34, 35, 36, 37, 38, 39, 40, 41, 42, 43, 44, 45, 46, 47, 48, 49, 50, 51, 52, 53, 54, 55, 56, 57, 58, 59, 60, 61, 62, 63, 64, 65, 66, 67, 68, 822, 823, 824, 825, 805, 806, 807, 808, 809, 826, 827, 828, 829, 830, 831, 832, 833, 834, 835, 836] (by decide +kernel) (by decide +kernel)
set_option maxRecDepth 20000 in
theorem gL_law_X6_init : GoodIn wsL_law (wsX6_init) := ggL_law_X6_init
set_option maxRecDepth 20000 in
theorem ggL_law_X7_init : GoodIn wsL_law wsX7_init := goodIn_r _ [71, 72, 11, 12, 40, 73, 22, 74, 75, 810, 811, 812, 813, 814, 815, 816, 817, 818, 819, 820, 821] (by decide +kernel) (by decide +kernel)
set_option maxRecDepth 20000 in
theorem gL_law_X7_init : GoodIn wsL_law (wsX7_init) := ggL_law_X7_init
set_option maxRecDepth 20000 in
theorem ggL_law_L_add : GoodIn wsL_law wsL_add := goodIn_ca (goodIn_ca (goodIn_r _ [79, 80, 81, 82, 83, 84, 2, 85, 20, 16, 27, 86, 87, 88, 89, 90, 91, 92, 93, 94, 95, 26, 96, 67, 97, 98, 99, 100, 101, 102, 103, 104, 105, 106, 107, 108, 109, 110, 111, 112, 113, 114, 115, 15, 116, 35, 117, 118, 119, 34, 120, 48, 121, 122, 123, 124, 42, 125, 126, 127, 128, 47, 129, 130, 131, 19, 132, 62, 61, 60, 133, 134, 135, 136, 39, 41, 137, 138, 139, 140, 141, 142, 143, 144, 46, 145, 146, 147, 148, 38, 149, 52, 150, 53, 54, 151, 152, 153, 154, 68, 155, 156, 157, 158, 159, 160, 161, 162, 163, 164, 165, 166, 167, 168, 169, 170, 171, 172, 173, 174, 175, 176, 177, 178, 179, 180, 181, 182, 183, 184, 185, 186, 187, 188, 189, 190, 191, 192, 805, 806, 807, 808, 809, 829, 830, 822, 823, 824, 825, 831, 832, 833, 826, 827, 828, 834, 835, 836] (by decide +kernel) (by decide +kernel)) (goodIn_sub (fun _ h => List.mem_append_left _ (List.mem_append_left _ (List.mem_append_right _ h))) (by decide +kernel))) (goodIn_sub (fun _ h => List.mem_append_left _ (List.mem_append_right _ h)) (by decide +kernel))
set_option maxRecDepth 20000 in
theorem gL_law_L_add : GoodIn wsL_law (va_wsS RL 97 yL_add wsL_add) := goodIn_app (goodIn_of _ (by decide +kernel)) ggL_law_L_add
set_option maxRecDepth 20000 in
theorem ggL_law_X7_add : GoodIn wsL_law wsX7_add := goodIn_r _ [196, 197, 73, 198, 199, 200, 5, 201, 75, 202, 203, 204, 205, 206, 207, 208, 209, 210, 211, 212, 213, 214, 215, 216, 217, 218, 219, 220, 221, 222, 223, 224, 225, 226, 227, 228, 229, 230, 231, 232, 233, 234, 235, 236, 237, 238, 239, 240, 241, 242, 243, 244, 245, 246, 247, 248, 249, 250, 251, 252, 253, 254, 255, 256, 257, 810, 811, 812, 813, 814, 815, 816, 817, 818, 819, 820, 821] (by decide +kernel) (by decide +kernel)
set_option maxRecDepth 20000 in
theorem gL_law_X7_add : GoodIn wsL_law (wsV RL 102 RX7 yX7_add wsX7_add) := goodIn_app (goodIn_of _ (by decide +kernel)) ggL_law_X7_add
set_option maxRecDepth 20000 in
theorem ggL_law_X7_thrown : GoodIn wsL_law wsX7_thrown := goodIn_r _ [261, 221, 810, 811, 812, 813, 814, 815, 816, 817, 818, 819, 820, 821] (by decide +kernel) (by decide +kernel)
set_option maxRecDepth 20000 in
theorem gL_law_X7_thrown : GoodIn wsL_law (wsV RL 103 RX7 yX7_thrown wsX7_thrown) := goodIn_app (goodIn_of _ (by decide +kernel)) ggL_law_X7_thrown
set_option maxRecDepth 20000 in
theorem ggL_law_L_remove : GoodIn wsL_law wsL_remove := goodIn_ca (goodIn_r _ [264, 265, 266, 267, 268, 2, 269, 20, 16, 270, 271, 272, 273, 274, 275, 276, 277, 278, 279, 280, 34, 281, 48, 282, 283, 284, 285, 46, 129, 130, 131, 19, 132, 62, 61, 60, 133, 134, 135, 15, 136, 35, 39, 41, 137, 138, 139, 140, 42, 141, 142, 143, 144, 145, 47, 146, 147, 148, 38, 149, 52, 150, 53, 54, 286, 287, 288, 289, 290, 291, 292, 293, 294, 295, 296, 297, 298, 299, 300, 301, 302, 303, 304, 177, 178, 179, 180, 181, 182, 183, 184, 185, 186, 169, 170, 171, 172, 187, 188, 189, 190, 191, 192, 805, 806, 807, 808, 809, 822, 823, 824, 825, 831, 832, 833, 826, 827, 828, 834, 835, 836] (by decide +kernel) (by decide +kernel)) (goodIn_sub (fun _ h => List.mem_append_right _ h) (by decide +kernel))
set_option maxRecDepth 20000 in
theorem gL_law_L_remove : GoodIn wsL_law (va_wsS RL 106 yL_remove wsL_remove) := goodIn_app (goodIn_of _ (by decide +kernel)) ggL_law_L_remove
set_option maxRecDepth 20000 in
theorem ggL_law_X7_remove : GoodIn wsL_law wsX7_remove := goodIn_r _ [308, 73, 309, 310, 311, 5, 312, 213, 214, 215, 216, 217, 218, 219, 220, 221, 222, 223, 224, 225, 226, 227, 228, 229, 230, 313, 314, 315, 316, 317, 318, 319, 320, 247, 248, 249, 250, 251, 252, 253, 254, 321, 322, 323, 324, 255, 256, 257, 810, 811, 812, 813, 814, 815, 816, 817, 818, 819, 820, 821] (by decide +kernel) (by decide +kernel)
set_option maxRecDepth 20000 in
theorem gL_law_X7_remove : GoodIn wsL_law (wsV RL 109 RX7 yX7_remove wsX7_remove) := goodIn_app (goodIn_of _ (by decide +kernel)) ggL_law_X7_remove
set_option maxRecDepth 20000 in
theorem ggL_law_L_rename : GoodIn wsL_law wsL_rename := goodIn_ca (goodIn_ca (goodIn_ca (goodIn_r _ [327, 265, 80, 81, 328, 329, 330, 2, 331, 111, 112, 16, 20, 27, 272, 273, 274, 275, 276, 277, 270, 278, 279, 280, 34, 281, 48, 282, 283, 284, 285, 46, 86, 87, 88, 89, 90, 91, 92, 93, 94, 95, 26, 96, 67, 97, 98, 99, 100, 101, 102, 103, 104, 105, 106, 332, 122, 123, 15, 124, 42, 35, 125, 126, 127, 128, 47, 129, 130, 131, 19, 132, 62, 61, 60, 133, 134, 135, 136, 39, 41, 137, 138, 139, 140, 141, 142, 143, 144, 145, 146, 147, 148, 38, 149, 52, 150, 53, 54, 151, 152, 153, 154, 68, 286, 287, 288, 289, 290, 291, 292, 293, 294, 295, 296, 297, 298, 299, 300, 301, 302, 303, 304, 177, 178, 179, 180, 181, 182, 183, 184, 185, 186, 169, 170, 171, 172, 187, 188, 189, 190, 191, 192, 155, 156, 157, 158, 159, 160, 161, 162, 163, 164, 165, 166, 167, 168, 173, 174, 175, 176, 805, 806, 807, 808, 809, 822, 823, 824, 825, 831, 832, 833, 829, 830, 826, 827, 828, 834, 835, 836] (by decide +kernel) (by decide +kernel)) (goodIn_sub (fun _ h => List.mem_append_left _ (List.mem_append_right _ h)) (by decide +kernel))) (goodIn_sub (fun _ h => List.mem_append_right _ h) (by decide +kernel))) (goodIn_sub (fun _ h => List.mem_append_left _ (List.mem_append_left _ (List.mem_append_right _ h))) (by decide +kernel))
set_option maxRecDepth 20000 in
theorem gL_law_L_rename : GoodIn wsL_law (va_wsS RL 110 yL_rename wsL_rename) := goodIn_app (goodIn_of _ (by decide +kernel)) ggL_law_L_rename
set_option maxRecDepth 20000 in
theorem ggL_law_X7_rename : GoodIn wsL_law wsX7_rename := goodIn_r _ [336, 197, 198, 199, 200, 5, 201, 75, 202, 203, 204, 309, 310, 311, 312, 73, 213, 214, 215, 216, 205, 206, 207, 208, 209, 210, 211, 212, 217, 218, 219, 220, 221, 222, 223, 224, 225, 226, 227, 228, 229, 230, 313, 314, 315, 316, 317, 318, 319, 320, 247, 248, 249, 250, 251, 252, 253, 254, 321, 322, 323, 324, 255, 256, 257, 231, 232, 233, 234, 235, 236, 237, 238, 239, 240, 241, 242, 243, 244, 245, 246, 810, 811, 812, 813, 814, 815, 816, 817, 818, 819, 820, 821] (by decide +kernel) (by decide +kernel)
set_option maxRecDepth 20000 in
theorem gL_law_X7_rename : GoodIn wsL_law (wsV RL 112 RX7 yX7_rename wsX7_rename) := goodIn_app (goodIn_of _ (by decide +kernel)) ggL_law_X7_rename
set_option maxRecDepth 20000 in
theorem ggL_law_L_open : GoodIn wsL_law wsL_open := goodIn_ca (goodIn_r _ [339, 265, 340, 341, 342, 2, 343, 20, 16, 344, 345, 346, 347, 276, 277, 129, 130, 131, 19, 132, 62, 61, 60, 133, 134, 135, 15, 136, 35, 39, 41, 137, 138, 139, 140, 42, 141, 142, 143, 34, 144, 46, 145, 47, 48, 146, 147, 148, 38, 149, 52, 150, 53, 54, 348, 349, 350, 351, 352, 353, 354, 355, 805, 806, 807, 808, 809, 822, 823, 824, 825, 826, 827, 828, 831, 832, 833, 834, 835, 836] (by decide +kernel) (by decide +kernel)) (goodIn_sub (fun _ h => List.mem_append_right _ h) (by decide +kernel))
set_option maxRecDepth 20000 in
theorem gL_law_L_open : GoodIn wsL_law (va_wsS RL 113 yL_open wsL_open) := goodIn_app (goodIn_of _ (by decide +kernel)) ggL_law_L_open
set_option maxRecDepth 20000 in
theorem ggL_law_X7_open : GoodIn wsL_law wsX7_open := goodIn_r _ [359, 73, 360, 361, 5, 362, 202, 203, 204, 217, 218, 219, 220, 221, 222, 223, 224, 225, 226, 227, 228, 229, 230, 363, 364, 365, 366, 810, 811, 812, 813, 814, 815, 816, 817, 818, 819, 820, 821] (by decide +kernel) (by decide +kernel)
set_option maxRecDepth 20000 in
theorem gL_law_X7_open : GoodIn wsL_law (wsV RL 115 RX7 yX7_open wsX7_open) := goodIn_app (goodIn_of _ (by decide +kernel)) ggL_law_X7_open
set_option maxRecDepth 20000 in
theorem ggL_law_L_close : GoodIn wsL_law wsL_close := goodIn_ca (goodIn_ca (goodIn_r _ [369, 265, 81, 370, 371, 372, 2, 373, 20, 16, 344, 345, 346, 347, 276, 277, 374, 375, 376, 377, 111, 112, 378, 353, 354, 15, 355, 41, 129, 130, 131, 19, 132, 62, 61, 60, 133, 134, 135, 136, 35, 39, 137, 138, 139, 140, 42, 141, 142, 143, 34, 144, 46, 145, 47, 48, 146, 147, 148, 38, 149, 52, 150, 53, 54, 805, 806, 807, 808, 809, 822, 823, 824, 825, 826, 827, 828, 831, 832, 833, 834, 835, 836] (by decide +kernel) (by decide +kernel)) (goodIn_sub (fun _ h => List.mem_append_right _ h) (by decide +kernel))) (goodIn_sub (fun _ h => List.mem_append_left _ (List.mem_append_right _ h)) (by decide +kernel))
set_option maxRecDepth 20000 in
theorem gL_law_L_close : GoodIn wsL_law (va_wsS RL 116 yL_close wsL_close) := goodIn_app (goodIn_of _ (by decide +kernel)) ggL_law_L_close
set_option maxRecDepth 20000 in
theorem ggL_law_X7_close : GoodIn wsL_law wsX7_close := goodIn_r _ [382, 360, 361, 5, 362, 202, 203, 204, 363, 364, 365, 366, 73, 217, 218, 219, 220, 221, 383, 384, 385, 386, 222, 223, 224, 225, 226, 227, 228, 229, 230, 810, 811, 812, 813, 814, 815, 816, 817, 818, 819, 820, 821] (by decide +kernel) (by decide +kernel)
set_option maxRecDepth 20000 in
theorem gL_law_X7_close : GoodIn wsL_law (wsV RL 118 RX7 yX7_close wsX7_close) := goodIn_app (goodIn_of _ (by decide +kernel)) ggL_law_X7_close
set_option maxRecDepth 20000 in
theorem ggL_law_L_next : GoodIn wsL_law wsL_next := goodIn_ca (goodIn_ca (goodIn_r _ [389, 265, 81, 390, 391, 392, 2, 393, 20, 16, 270, 271, 344, 394, 345, 346, 347, 276, 277, 374, 375, 376, 377, 111, 112, 378, 353, 354, 15, 355, 41, 129, 130, 131, 19, 132, 62, 61, 60, 133, 134, 135, 136, 35, 39, 137, 138, 139, 140, 42, 141, 142, 143, 34, 144, 46, 145, 47, 48, 146, 147, 148, 38, 149, 52, 150, 53, 54, 395, 396, 397, 398, 399, 170, 171, 172, 400, 283, 284, 285, 805, 806, 807, 808, 809, 822, 823, 824, 825, 831, 832, 833, 826, 827, 828, 834, 835, 836] (by decide +kernel) (by decide +kernel)) (goodIn_sub (fun _ h => List.mem_append_right _ h) (by decide +kernel))) (goodIn_sub (fun _ h => List.mem_append_left _ (List.mem_append_right _ h)) (by decide +kernel))
set_option maxRecDepth 20000 in
theorem gL_law_L_next : GoodIn wsL_law (va_wsS RL 119 yL_next wsL_next) := goodIn_app (goodIn_of _ (by decide +kernel)) ggL_law_L_next
set_option maxRecDepth 20000 in
theorem ggL_law_X7_next : GoodIn wsL_law wsX7_next := goodIn_r _ [404, 73, 360, 361, 5, 362, 202, 203, 204, 363, 364, 365, 366, 217, 218, 219, 220, 221, 222, 223, 224, 225, 226, 227, 228, 229, 230, 405, 406, 407, 408, 239, 240, 241, 242, 213, 214, 215, 216, 810, 811, 812, 813, 814, 815, 816, 817, 818, 819, 820, 821] (by decide +kernel) (by decide +kernel)
set_option maxRecDepth 20000 in
theorem gL_law_X7_next : GoodIn wsL_law (wsV RL 121 RX7 yX7_next wsX7_next) := goodIn_app (goodIn_of _ (by decide +kernel)) ggL_law_X7_next
set_option maxRecDepth 20000 in
theorem ggL_law_L_readLeaf : GoodIn wsL_law wsL_readLeaf := goodIn_ca (goodIn_ca (goodIn_r _ [411, 265, 81, 412, 413, 414, 2, 415, 20, 16, 344, 270, 394, 345, 346, 347, 276, 277, 374, 375, 376, 377, 111, 112, 378, 353, 354, 15, 355, 41, 129, 130, 131, 19, 132, 62, 61, 60, 133, 134, 135, 136, 35, 39, 137, 138, 139, 140, 42, 141, 142, 143, 34, 144, 46, 145, 47, 48, 146, 147, 148, 38, 149, 52, 150, 53, 54, 395, 396, 397, 398, 399, 170, 171, 172, 416, 417, 418, 419, 420, 421, 290, 291, 292, 293, 422, 185, 186, 805, 806, 807, 808, 809, 822, 823, 824, 825, 831, 832, 833, 826, 827, 828, 834, 835, 836] (by decide +kernel) (by decide +kernel)) (goodIn_sub (fun _ h => List.mem_append_right _ h) (by decide +kernel))) (goodIn_sub (fun _ h => List.mem_append_left _ (List.mem_append_right _ h)) (by decide +kernel))
set_option maxRecDepth 20000 in
theorem gL_law_L_readLeaf : GoodIn wsL_law (va_wsS RL 122 yL_readLeaf wsL_readLeaf) := goodIn_app (goodIn_of _ (by decide +kernel)) ggL_law_L_readLeaf
set_option maxRecDepth 20000 in
theorem ggL_law_X7_readLeaf : GoodIn wsL_law wsX7_readLeaf := goodIn_r _ [426, 73, 360, 361, 5, 362, 202, 203, 204, 363, 364, 365, 366, 217, 218, 219, 220, 221, 222, 223, 224, 225, 226, 227, 228, 229, 230, 405, 406, 407, 408, 239, 240, 241, 242, 213, 214, 215, 216, 247, 248, 249, 250, 810, 811, 812, 813, 814, 815, 816, 817, 818, 819, 820, 821] (by decide +kernel) (by decide +kernel)
set_option maxRecDepth 20000 in
theorem gL_law_X7_readLeaf : GoodIn wsL_law (wsV RL 124 RX7 yX7_readLeaf wsX7_readLeaf) := goodIn_app (goodIn_of _ (by decide +kernel)) ggL_law_X7_readLeaf
set_option maxRecDepth 20000 in
theorem ggL_law_L_seek : GoodIn wsL_law wsL_seek := goodIn_ca (goodIn_ca (goodIn_ca (goodIn_r _ [429, 265, 80, 81, 430, 431, 432, 2, 433, 90, 91, 434, 20, 16, 344, 345, 346, 347, 276, 277, 374, 375, 376, 377, 111, 112, 378, 353, 354, 15, 355, 41, 129, 130, 131, 19, 132, 62, 61, 60, 133, 134, 135, 136, 35, 39, 137, 138, 139, 140, 42, 141, 142, 143, 34, 144, 46, 145, 47, 48, 146, 147, 148, 38, 149, 52, 150, 53, 54, 805, 806, 807, 808, 809, 822, 823, 824, 825, 826, 827, 828, 831, 832, 833, 834, 835, 836] (by decide +kernel) (by decide +kernel)) (goodIn_sub (fun _ h => List.mem_append_left _ (List.mem_append_left _ (List.mem_append_right _ h))) (by decide +kernel))) (goodIn_sub (fun _ h => List.mem_append_right _ h) (by decide +kernel))) (goodIn_sub (fun _ h => List.mem_append_left _ (List.mem_append_right _ h)) (by decide +kernel))
set_option maxRecDepth 20000 in
theorem gL_law_L_seek : GoodIn wsL_law (va_wsS RL 125 yL_seek wsL_seek) := goodIn_app (goodIn_of _ (by decide +kernel)) ggL_law_L_seek
set_option maxRecDepth 20000 in
theorem ggL_law_X7_seek : GoodIn wsL_law wsX7_seek := goodIn_r _ [438, 439, 202, 203, 5, 204, 360, 361, 362, 363, 364, 365, 366, 73, 217, 218, 219, 220, 221, 383, 384, 385, 386, 222, 223, 224, 225, 226, 227, 228, 229, 230, 810, 811, 812, 813, 814, 815, 816, 817, 818, 819, 820, 821] (by decide +kernel) (by decide +kernel)
set_option maxRecDepth 20000 in
theorem gL_law_X7_seek : GoodIn wsL_law (wsV RL 128 RX7 yX7_seek wsX7_seek) := goodIn_app (goodIn_of _ (by decide +kernel)) ggL_law_X7_seek
set_option maxRecDepth 20000 in
theorem ggL_law_L_appendText : GoodIn wsL_law wsL_appendText := goodIn_ca (goodIn_ca (goodIn_r _ [442, 80, 81, 443, 444, 445, 2, 446, 90, 91, 111, 112, 27, 92, 447, 448, 449, 26, 450, 67, 68, 805, 806, 807, 808, 809, 829, 830] (by decide +kernel) (by decide +kernel)) (goodIn_sub (fun _ h => List.mem_append_left _ (List.mem_append_left _ (List.mem_append_right _ h))) (by decide +kernel))) (goodIn_sub (fun _ h => List.mem_append_left _ (List.mem_append_right _ h)) (by decide +kernel))
set_option maxRecDepth 20000 in
theorem gL_law_L_appendText : GoodIn wsL_law (va_wsS RL 129 yL_appendText wsL_appendText) := goodIn_app (goodIn_of _ (by decide +kernel)) ggL_law_L_appendText
set_option maxRecDepth 20000 in
theorem ggL_law_X7_appendText : GoodIn wsL_law wsX7_appendText := goodIn_r _ [454, 197, 75, 202, 203, 5, 204, 217, 218, 219, 220, 221, 810, 811, 812, 813, 814, 815, 816, 817, 818, 819, 820, 821] (by decide +kernel) (by decide +kernel)
set_option maxRecDepth 20000 in
theorem gL_law_X7_appendText : GoodIn wsL_law (wsV RL 131 RX7 yX7_appendText wsX7_appendText) := goodIn_app (goodIn_of _ (by decide +kernel)) ggL_law_X7_appendText
set_option maxRecDepth 20000 in
theorem ggL_law_X6_clearText : GoodIn wsL_law wsX6_clearText := goodIn_r _ [458, 27, 92, 151, 152, 153, 26, 154, 68, 805, 806, 807, 808, 809, 829, 830] (by decide +kernel) (by decide +kernel)
set_option maxRecDepth 20000 in
theorem gL_law_X6_clearText : GoodIn wsL_law (wsV RL 132 RX6 yX6_clearText wsX6_clearText) := goodIn_app (goodIn_of _ (by decide +kernel)) ggL_law_X6_clearText
set_option maxRecDepth 20000 in
theorem ggL_law_X7_clearText : GoodIn wsL_law wsX7_clearText := goodIn_r _ [462, 221, 197, 810, 811, 812, 813, 814, 815, 816, 817, 818, 819, 820, 821] (by decide +kernel) (by decide +kernel)
set_option maxRecDepth 20000 in
theorem gL_law_X7_clearText : GoodIn wsL_law (wsV RL 135 RX7 yX7_clearText wsX7_clearText) := goodIn_app (goodIn_of _ (by decide +kernel)) ggL_law_X7_clearText
set_option maxRecDepth 20000 in
theorem ggL_law_X6_errorPosition : GoodIn wsL_law wsX6_errorPosition := goodIn_r _ [466, 27, 467, 468, 469, 26, 470, 68, 67, 471, 472, 473, 97, 98, 99, 100, 474, 475, 476, 805, 806, 807, 808, 809, 829, 830] (by decide +kernel) (by decide +kernel)
set_option maxRecDepth 20000 in
theorem gL_law_X6_errorPosition : GoodIn wsL_law (wsV RL 136 RX6 yX6_errorPosition wsX6_errorPosition) := goodIn_app (goodIn_of _ (by decide +kernel)) ggL_law_X6_errorPosition
set_option maxRecDepth 20000 in
theorem ggL_law_X7_errorPosition : GoodIn wsL_law wsX7_errorPosition := goodIn_r _ [480, 221, 481, 482, 483, 484, 5, 485, 197, 486, 487, 488, 489, 75, 490, 491, 492, 493, 494, 495, 496, 497, 498, 499, 500, 501, 502, 202, 203, 204, 810, 811, 812, 813, 814, 815, 816, 817, 818, 819, 820, 821] (by decide +kernel) (by decide +kernel)
set_option maxRecDepth 20000 in
theorem gL_law_X7_errorPosition : GoodIn wsL_law (wsV RL 139 RX7 yX7_errorPosition wsX7_errorPosition) := goodIn_app (goodIn_of _ (by decide +kernel)) ggL_law_X7_errorPosition
set_option maxRecDepth 20000 in
theorem ggL_law_L_runText : GoodIn wsL_law wsL_runText := goodIn_ca (goodIn_r _ [505, 80, 506, 507, 508, 2, 509, 90, 91, 27, 20, 16, 92, 467, 468, 469, 26, 470, 68, 67, 471, 472, 473, 97, 98, 99, 100, 474, 475, 476, 129, 130, 131, 19, 132, 62, 61, 60, 133, 134, 135, 15, 136, 35, 39, 41, 137, 138, 139, 140, 42, 141, 142, 143, 34, 144, 46, 145, 47, 48, 146, 147, 148, 38, 149, 52, 150, 53, 54, 510, 511, 512, 513, 514, 515, 516, 517, 518, 519, 520, 521, 93, 94, 95, 96, 101, 102, 103, 104, 105, 106, 522, 523, 524, 525, 113, 114, 115, 116, 117, 118, 119, 120, 121, 122, 123, 124, 125, 126, 127, 128, 155, 156, 157, 158, 159, 160, 161, 162, 163, 164, 165, 166, 167, 168, 169, 170, 171, 172, 173, 174, 175, 176, 177, 178, 179, 180, 181, 182, 183, 184, 185, 186, 187, 188, 189, 190, 191, 192, 526, 527, 528, 529, 270, 530, 286, 287, 288, 289, 290, 291, 292, 293, 294, 295, 296, 297, 298, 299, 300, 301, 302, 303, 304, 531, 532, 533, 534, 535, 536, 537, 538, 332, 805, 806, 807, 808, 809, 829, 830, 826, 827, 828, 822, 823, 824, 825, 831, 832, 833, 834, 835, 836] (by decide +kernel) (by decide +kernel)) (goodIn_sub (fun _ h => List.mem_append_left _ (List.mem_append_left _ (List.mem_append_right _ h))) (by decide +kernel))
set_option maxRecDepth 20000 in
theorem gL_law_L_runText : GoodIn wsL_law (va_wsS RL 140 yL_runText wsL_runText) := goodIn_app (goodIn_of _ (by decide +kernel)) ggL_law_L_runText
set_option maxRecDepth 20000 in
theorem ggL_law_X7_runText : GoodIn wsL_law wsX7_runText := goodIn_r _ [542, 481, 482, 483, 484, 5, 485, 197, 486, 487, 488, 489, 75, 490, 491, 492, 493, 494, 495, 496, 497, 498, 499, 500, 501, 502, 202, 203, 204, 217, 218, 219, 220, 221, 222, 223, 224, 225, 226, 227, 228, 229, 230, 73, 543, 544, 545, 546, 209, 210, 211, 212, 213, 214, 215, 216, 205, 206, 207, 208, 231, 232, 233, 234, 235, 236, 237, 238, 239, 240, 241, 242, 243, 244, 245, 246, 247, 248, 249, 250, 251, 252, 253, 254, 255, 256, 257, 313, 314, 315, 316, 317, 318, 319, 320, 321, 322, 323, 324, 810, 811, 812, 813, 814, 815, 816, 817, 818, 819, 820, 821] (by decide +kernel) (by decide +kernel)
set_option maxRecDepth 20000 in
theorem gL_law_X7_runText : GoodIn wsL_law (wsV RL 142 RX7 yX7_runText wsX7_runText) := goodIn_app (goodIn_of _ (by decide +kernel)) ggL_law_X7_runText
set_option maxRecDepth 20000 in
theorem ggL_law_L_undo : GoodIn wsL_law wsL_undo := goodIn_ca (goodIn_r _ [549, 81, 550, 551, 552, 2, 553, 111, 112, 20, 554, 16, 555, 556, 557, 19, 558, 62, 60, 61, 133, 134, 135, 15, 136, 35, 39, 41, 137, 138, 139, 140, 42, 141, 142, 143, 34, 144, 46, 145, 47, 48, 146, 147, 148, 38, 149, 52, 150, 53, 54, 805, 806, 807, 808, 809, 826, 827, 828, 822, 823, 824, 825, 831, 832, 833, 834, 835, 836] (by decide +kernel) (by decide +kernel)) (goodIn_sub (fun _ h => List.mem_append_left _ (List.mem_append_right _ h)) (by decide +kernel))
set_option maxRecDepth 20000 in
theorem gL_law_L_undo : GoodIn wsL_law (va_wsS RL 143 yL_undo wsL_undo) := goodIn_app (goodIn_of _ (by decide +kernel)) ggL_law_L_undo
set_option maxRecDepth 20000 in
theorem ggL_law_X7_undo : GoodIn wsL_law wsX7_undo := goodIn_r _ [562, 226, 217, 218, 219, 5, 220, 221, 227, 228, 229, 230, 73, 810, 811, 812, 813, 814, 815, 816, 817, 818, 819, 820, 821] (by decide +kernel) (by decide +kernel)
set_option maxRecDepth 20000 in
theorem gL_law_X7_undo : GoodIn wsL_law (wsV RL 145 RX7 yX7_undo wsX7_undo) := goodIn_app (goodIn_of _ (by decide +kernel)) ggL_law_X7_undo
set_option maxRecDepth 20000 in
theorem ggL_law_L_save : GoodIn wsL_law wsL_save := goodIn_ca (goodIn_r _ [565, 265, 566, 567, 568, 2, 569, 21, 16, 23, 270, 271, 570, 571, 572, 276, 277, 573, 134, 135, 15, 136, 35, 39, 41, 137, 138, 139, 140, 42, 141, 142, 143, 34, 144, 46, 145, 47, 48, 146, 147, 148, 38, 149, 52, 150, 53, 54, 805, 806, 807, 808, 809, 822, 823, 824, 825, 831, 832, 833, 834, 835, 836] (by decide +kernel) (by decide +kernel)) (goodIn_sub (fun _ h => List.mem_append_right _ h) (by decide +kernel))
set_option maxRecDepth 20000 in
theorem gL_law_L_save : GoodIn wsL_law (va_wsS RL 146 yL_save wsL_save) := goodIn_app (goodIn_of _ (by decide +kernel)) ggL_law_L_save
set_option maxRecDepth 20000 in
theorem ggL_law_X7_save : GoodIn wsL_law wsX7_save := goodIn_r _ [577, 74, 73, 202, 203, 5, 204, 217, 218, 219, 220, 221, 227, 228, 229, 230, 810, 811, 812, 813, 814, 815, 816, 817, 818, 819, 820, 821] (by decide +kernel) (by decide +kernel)
set_option maxRecDepth 20000 in
theorem gL_law_X7_save : GoodIn wsL_law (wsV RL 148 RX7 yX7_save wsX7_save) := goodIn_app (goodIn_of _ (by decide +kernel)) ggL_law_X7_save
set_option maxRecDepth 20000 in
theorem ggL_law_L_restore : GoodIn wsL_law wsL_restore := goodIn_ca (goodIn_ca (goodIn_r _ [580, 265, 81, 581, 582, 583, 2, 584, 111, 112, 23, 20, 16, 21, 270, 271, 570, 571, 572, 276, 277, 129, 130, 131, 19, 132, 62, 61, 60, 133, 134, 135, 15, 136, 35, 39, 41, 137, 138, 139, 140, 42, 141, 142, 143, 34, 144, 46, 145, 47, 48, 146, 147, 148, 38, 149, 52, 150, 53, 54, 573, 805, 806, 807, 808, 809, 822, 823, 824, 825, 831, 832, 833, 826, 827, 828, 834, 835, 836] (by decide +kernel) (by decide +kernel)) (goodIn_sub (fun _ h => List.mem_append_left _ (List.mem_append_right _ h)) (by decide +kernel))) (goodIn_sub (fun _ h => List.mem_append_right _ h) (by decide +kernel))
set_option maxRecDepth 20000 in
theorem gL_law_L_restore : GoodIn wsL_law (va_wsS RL 149 yL_restore wsL_restore) := goodIn_app (goodIn_of _ (by decide +kernel)) ggL_law_L_restore
set_option maxRecDepth 20000 in
theorem ggL_law_X7_restore : GoodIn wsL_law wsX7_restore := goodIn_r _ [588, 74, 73, 202, 203, 5, 204, 217, 218, 219, 220, 221, 222, 223, 224, 225, 226, 227, 228, 229, 230, 810, 811, 812, 813, 814, 815, 816, 817, 818, 819, 820, 821] (by decide +kernel) (by decide +kernel)
set_option maxRecDepth 20000 in
theorem gL_law_X7_restore : GoodIn wsL_law (wsV RL 151 RX7 yX7_restore wsX7_restore) := goodIn_app (goodIn_of _ (by decide +kernel)) ggL_law_X7_restore
set_option maxRecDepth 20000 in
theorem ggL_law_X6_entries : GoodIn wsL_law wsX6_entries := goodIn_r _ [592, 16, 270, 271, 805, 806, 807, 808, 809, 822, 823, 824, 825, 831, 832, 833] (by decide +kernel) (by decide +kernel)
set_option maxRecDepth 20000 in
theorem gL_law_X6_entries : GoodIn wsL_law (wsV RL 152 RX6 yX6_entries wsX6_entries) := goodIn_app (goodIn_of _ (by decide +kernel)) ggL_law_X6_entries
set_option maxRecDepth 20000 in
theorem ggL_law_X7_entries : GoodIn wsL_law wsX7_entries := goodIn_r _ [596, 221, 73, 810, 811, 812, 813, 814, 815, 816, 817, 818, 819, 820, 821] (by decide +kernel) (by decide +kernel)
set_option maxRecDepth 20000 in
theorem gL_law_X7_entries : GoodIn wsL_law (wsV RL 155 RX7 yX7_entries wsX7_entries) := goodIn_app (goodIn_of _ (by decide +kernel)) ggL_law_X7_entries
set_option maxRecDepth 20000 in
theorem ggL_law_L_idAt : GoodIn wsL_law wsL_idAt := goodIn_ca (goodIn_r _ [599, 265, 600, 601, 602, 2, 603, 276, 277, 16, 270, 271, 400, 283, 284, 34, 285, 46, 805, 806, 807, 808, 809, 822, 823, 824, 825, 831, 832, 833] (by decide +kernel) (by decide +kernel)) (goodIn_sub (fun _ h => List.mem_append_right _ h) (by decide +kernel))
set_option maxRecDepth 20000 in
theorem gL_law_L_idAt : GoodIn wsL_law (va_wsS RL 156 yL_idAt wsL_idAt) := goodIn_app (goodIn_of _ (by decide +kernel)) ggL_law_L_idAt
set_option maxRecDepth 20000 in
theorem ggL_law_X7_idAt : GoodIn wsL_law wsX7_idAt := goodIn_r _ [607, 73, 217, 218, 219, 5, 220, 221, 213, 214, 215, 216, 810, 811, 812, 813, 814, 815, 816, 817, 818, 819, 820, 821] (by decide +kernel) (by decide +kernel)
set_option maxRecDepth 20000 in
theorem gL_law_X7_idAt : GoodIn wsL_law (wsV RL 158 RX7 yX7_idAt wsX7_idAt) := goodIn_app (goodIn_of _ (by decide +kernel)) ggL_law_X7_idAt
set_option maxRecDepth 20000 in
theorem ggL_law_L_find : GoodIn wsL_law wsL_find := goodIn_ca (goodIn_r _ [610, 80, 611, 612, 613, 2, 614, 16, 270, 86, 87, 88, 89, 90, 91, 27, 92, 93, 94, 95, 26, 96, 67, 97, 98, 99, 100, 101, 102, 103, 104, 105, 106, 530, 126, 127, 34, 128, 48, 47, 400, 283, 284, 285, 46, 805, 806, 807, 808, 809, 822, 823, 824, 825, 829, 830, 831, 832, 833] (by decide +kernel) (by decide +kernel)) (goodIn_sub (fun _ h => List.mem_append_left _ (List.mem_append_left _ (List.mem_append_right _ h))) (by decide +kernel))
set_option maxRecDepth 20000 in
theorem gL_law_L_find : GoodIn wsL_law (va_wsS RL 159 yL_find wsL_find) := goodIn_app (goodIn_of _ (by decide +kernel)) ggL_law_L_find
set_option maxRecDepth 20000 in
theorem ggL_law_X7_find : GoodIn wsL_law wsX7_find := goodIn_r _ [618, 197, 198, 199, 200, 5, 201, 75, 202, 203, 204, 217, 218, 219, 220, 221, 209, 210, 211, 212, 73, 213, 214, 215, 216, 810, 811, 812, 813, 814, 815, 816, 817, 818, 819, 820, 821] (by decide +kernel) (by decide +kernel)
set_option maxRecDepth 20000 in
theorem gL_law_X7_find : GoodIn wsL_law (wsV RL 161 RX7 yX7_find wsX7_find) := goodIn_app (goodIn_of _ (by decide +kernel)) ggL_law_X7_find
set_option maxRecDepth 20000 in
theorem ggL_law_L_hashOfText : GoodIn wsL_law wsL_hashOfText := goodIn_ca (goodIn_r _ [621, 80, 622, 623, 624, 2, 625, 86, 87, 88, 89, 90, 91, 27, 92, 93, 94, 95, 26, 96, 67, 97, 98, 99, 100, 101, 102, 103, 104, 105, 106, 626, 160, 161, 162, 163, 164, 805, 806, 807, 808, 809, 829, 830] (by decide +kernel) (by decide +kernel)) (goodIn_sub (fun _ h => List.mem_append_left _ (List.mem_append_left _ (List.mem_append_right _ h))) (by decide +kernel))
set_option maxRecDepth 20000 in
theorem gL_law_L_hashOfText : GoodIn wsL_law (va_wsS RL 162 yL_hashOfText wsL_hashOfText) := goodIn_app (goodIn_of _ (by decide +kernel)) ggL_law_L_hashOfText
set_option maxRecDepth 20000 in
theorem ggL_law_X7_hashOfText : GoodIn wsL_law wsX7_hashOfText := goodIn_r _ [630, 197, 198, 199, 200, 5, 201, 75, 202, 203, 204, 217, 218, 219, 220, 221, 235, 236, 237, 238, 810, 811, 812, 813, 814, 815, 816, 817, 818, 819, 820, 821] (by decide +kernel) (by decide +kernel)
set_option maxRecDepth 20000 in
theorem gL_law_X7_hashOfText : GoodIn wsL_law (wsV RL 164 RX7 yX7_hashOfText wsX7_hashOfText) := goodIn_app (goodIn_of _ (by decide +kernel)) ggL_law_X7_hashOfText
set_option maxRecDepth 20000 in
theorem ggL_law_L_hashOf : GoodIn wsL_law wsL_hashOf := goodIn_ca (goodIn_r _ [633, 265, 634, 635, 636, 2, 637, 16, 270, 272, 273, 274, 275, 276, 277, 278, 279, 280, 34, 281, 48, 282, 283, 284, 285, 46, 638, 291, 292, 293, 805, 806, 807, 808, 809, 822, 823, 824, 825, 831, 832, 833] (by decide +kernel) (by decide +kernel)) (goodIn_sub (fun _ h => List.mem_append_right _ h) (by decide +kernel))
set_option maxRecDepth 20000 in
theorem gL_law_L_hashOf : GoodIn wsL_law (va_wsS RL 165 yL_hashOf wsL_hashOf) := goodIn_app (goodIn_of _ (by decide +kernel)) ggL_law_L_hashOf
set_option maxRecDepth 20000 in
theorem ggL_law_X7_hashOf : GoodIn wsL_law wsX7_hashOf := goodIn_r _ [642, 309, 310, 311, 5, 312, 73, 213, 214, 215, 216, 217, 218, 219, 220, 221, 810, 811, 812, 813, 814, 815, 816, 817, 818, 819, 820, 821] (by decide +kernel) (by decide +kernel)
set_option maxRecDepth 20000 in
theorem gL_law_X7_hashOf : GoodIn wsL_law (wsV RL 167 RX7 yX7_hashOf wsX7_hashOf) := goodIn_app (goodIn_of _ (by decide +kernel)) ggL_law_X7_hashOf
set_option maxRecDepth 20000 in
theorem ggL_law_L_letterOf : GoodIn wsL_law wsL_letterOf := goodIn_ca (goodIn_r _ [645, 265, 646, 647, 648, 2, 649, 276, 277, 16, 270, 650, 272, 273, 274, 275, 278, 279, 280, 34, 281, 48, 282, 283, 284, 285, 46, 651, 163, 99, 164, 104, 105, 106, 805, 806, 807, 808, 809, 822, 823, 824, 825, 831, 832, 833] (by decide +kernel) (by decide +kernel)) (goodIn_sub (fun _ h => List.mem_append_right _ h) (by decide +kernel))
set_option maxRecDepth 20000 in
theorem gL_law_L_letterOf : GoodIn wsL_law (va_wsS RL 168 yL_letterOf wsL_letterOf) := goodIn_app (goodIn_of _ (by decide +kernel)) ggL_law_L_letterOf
set_option maxRecDepth 20000 in
theorem ggL_law_X7_letterOf : GoodIn wsL_law wsX7_letterOf := goodIn_r _ [655, 309, 310, 311, 5, 312, 73, 213, 214, 215, 216, 217, 218, 219, 220, 221, 810, 811, 812, 813, 814, 815, 816, 817, 818, 819, 820, 821] (by decide +kernel) (by decide +kernel)
set_option maxRecDepth 20000 in
theorem gL_law_X7_letterOf : GoodIn wsL_law (wsV RL 170 RX7 yX7_letterOf wsX7_letterOf) := goodIn_app (goodIn_of _ (by decide +kernel)) ggL_law_X7_letterOf
set_option maxRecDepth 20000 in
theorem ggL_law_L_withHash : GoodIn wsL_law wsL_withHash := goodIn_ca (goodIn_r _ [658, 265, 659, 660, 661, 2, 662, 16, 270, 663, 664, 665, 276, 277, 666, 178, 179, 34, 180, 181, 182, 38, 183, 184, 185, 186, 169, 170, 171, 172, 48, 46, 805, 806, 807, 808, 809, 822, 823, 824, 825, 831, 832, 833] (by decide +kernel) (by decide +kernel)) (goodIn_sub (fun _ h => List.mem_append_right _ h) (by decide +kernel))
set_option maxRecDepth 20000 in
theorem gL_law_L_withHash : GoodIn wsL_law (va_wsS RL 171 yL_withHash wsL_withHash) := goodIn_app (goodIn_of _ (by decide +kernel)) ggL_law_L_withHash
set_option maxRecDepth 20000 in
theorem ggL_law_X7_withHash : GoodIn wsL_law wsX7_withHash := goodIn_r _ [670, 671, 672, 5, 673, 202, 203, 204, 217, 218, 219, 220, 221, 251, 252, 253, 254, 73, 213, 214, 215, 216, 810, 811, 812, 813, 814, 815, 816, 817, 818, 819, 820, 821] (by decide +kernel) (by decide +kernel)
set_option maxRecDepth 20000 in
theorem gL_law_X7_withHash : GoodIn wsL_law (wsV RL 173 RX7 yX7_withHash wsX7_withHash) := goodIn_app (goodIn_of _ (by decide +kernel)) ggL_law_X7_withHash
set_option maxRecDepth 20000 in
theorem ggL_law_X6_leaves : GoodIn wsL_law wsX6_leaves := goodIn_r _ [677, 16, 678, 679, 680, 681, 38, 682, 52, 192, 182, 183, 805, 806, 807, 808, 809, 822, 823, 824, 825, 834, 835, 836] (by decide +kernel) (by decide +kernel)
set_option maxRecDepth 20000 in
theorem gL_law_X6_leaves : GoodIn wsL_law (wsV RL 174 RX6 yX6_leaves wsX6_leaves) := goodIn_app (goodIn_of _ (by decide +kernel)) ggL_law_X6_leaves
set_option maxRecDepth 20000 in
theorem ggL_law_X7_leaves : GoodIn wsL_law wsX7_leaves := goodIn_r _ [686, 221, 687, 688, 689, 5, 690, 73, 810, 811, 812, 813, 814, 815, 816, 817, 818, 819, 820, 821] (by decide +kernel) (by decide +kernel)
set_option maxRecDepth 20000 in
theorem gL_law_X7_leaves : GoodIn wsL_law (wsV RL 177 RX7 yX7_leaves wsX7_leaves) := goodIn_app (goodIn_of _ (by decide +kernel)) ggL_law_X7_leaves
set_option maxRecDepth 20000 in
theorem ggL_law_L_depthOf : GoodIn wsL_law wsL_depthOf := goodIn_ca (goodIn_r _ [693, 265, 694, 695, 696, 2, 697, 16, 678, 698, 663, 664, 665, 276, 277, 805, 806, 807, 808, 809, 822, 823, 824, 825, 834, 835, 836] (by decide +kernel) (by decide +kernel)) (goodIn_sub (fun _ h => List.mem_append_right _ h) (by decide +kernel))
set_option maxRecDepth 20000 in
theorem gL_law_L_depthOf : GoodIn wsL_law (va_wsS RL 178 yL_depthOf wsL_depthOf) := goodIn_app (goodIn_of _ (by decide +kernel)) ggL_law_L_depthOf
set_option maxRecDepth 20000 in
theorem ggL_law_X7_depthOf : GoodIn wsL_law wsX7_depthOf := goodIn_r _ [702, 671, 672, 5, 673, 202, 203, 204, 217, 218, 219, 220, 221, 247, 248, 249, 250, 73, 810, 811, 812, 813, 814, 815, 816, 817, 818, 819, 820, 821] (by decide +kernel) (by decide +kernel)
set_option maxRecDepth 20000 in
theorem gL_law_X7_depthOf : GoodIn wsL_law (wsV RL 180 RX7 yX7_depthOf wsX7_depthOf) := goodIn_app (goodIn_of _ (by decide +kernel)) ggL_law_X7_depthOf
set_option maxRecDepth 20000 in
theorem ggL_law_L_leafSize : GoodIn wsL_law wsL_leafSize := goodIn_ca (goodIn_r _ [705, 265, 706, 707, 708, 2, 709, 16, 270, 678, 698, 663, 664, 665, 276, 277, 666, 178, 179, 34, 180, 181, 182, 38, 183, 184, 185, 186, 169, 170, 171, 172, 48, 46, 805, 806, 807, 808, 809, 822, 823, 824, 825, 834, 835, 836, 831, 832, 833] (by decide +kernel) (by decide +kernel)) (goodIn_sub (fun _ h => List.mem_append_right _ h) (by decide +kernel))
set_option maxRecDepth 20000 in
theorem gL_law_L_leafSize : GoodIn wsL_law (va_wsS RL 181 yL_leafSize wsL_leafSize) := goodIn_app (goodIn_of _ (by decide +kernel)) ggL_law_L_leafSize
set_option maxRecDepth 20000 in
theorem ggL_law_X7_leafSize : GoodIn wsL_law wsX7_leafSize := goodIn_r _ [713, 671, 672, 5, 673, 202, 203, 204, 217, 218, 219, 220, 221, 247, 248, 249, 250, 73, 251, 252, 253, 254, 213, 214, 215, 216, 810, 811, 812, 813, 814, 815, 816, 817, 818, 819, 820, 821] (by decide +kernel) (by decide +kernel)
set_option maxRecDepth 20000 in
theorem gL_law_X7_leafSize : GoodIn wsL_law (wsV RL 183 RX7 yX7_leafSize wsX7_leafSize) := goodIn_app (goodIn_of _ (by decide +kernel)) ggL_law_X7_leafSize
set_option maxRecDepth 20000 in
theorem ggL_law_X6_splits : GoodIn wsL_law wsX6_splits := goodIn_r _ [717, 16, 678, 718, 805, 806, 807, 808, 809, 822, 823, 824, 825, 834, 835, 836] (by decide +kernel) (by decide +kernel)
set_option maxRecDepth 20000 in
theorem gL_law_X6_splits : GoodIn wsL_law (wsV RL 184 RX6 yX6_splits wsX6_splits) := goodIn_app (goodIn_of _ (by decide +kernel)) ggL_law_X6_splits
set_option maxRecDepth 20000 in
theorem ggL_law_X7_splits : GoodIn wsL_law wsX7_splits := goodIn_r _ [722, 221, 73, 810, 811, 812, 813, 814, 815, 816, 817, 818, 819, 820, 821] (by decide +kernel) (by decide +kernel)
set_option maxRecDepth 20000 in
theorem gL_law_X7_splits : GoodIn wsL_law (wsV RL 187 RX7 yX7_splits wsX7_splits) := goodIn_app (goodIn_of _ (by decide +kernel)) ggL_law_X7_splits
set_option maxRecDepth 20000 in
theorem ggL_law_X6_merges : GoodIn wsL_law wsX6_merges := goodIn_r _ [726, 16, 678, 727, 805, 806, 807, 808, 809, 822, 823, 824, 825, 834, 835, 836] (by decide +kernel) (by decide +kernel)
set_option maxRecDepth 20000 in
theorem gL_law_X6_merges : GoodIn wsL_law (wsV RL 188 RX6 yX6_merges wsX6_merges) := goodIn_app (goodIn_of _ (by decide +kernel)) ggL_law_X6_merges
set_option maxRecDepth 20000 in
theorem ggL_law_X7_merges : GoodIn wsL_law wsX7_merges := goodIn_r _ [731, 221, 73, 810, 811, 812, 813, 814, 815, 816, 817, 818, 819, 820, 821] (by decide +kernel) (by decide +kernel)
set_option maxRecDepth 20000 in
theorem gL_law_X7_merges : GoodIn wsL_law (wsV RL 191 RX7 yX7_merges wsX7_merges) := goodIn_app (goodIn_of _ (by decide +kernel)) ggL_law_X7_merges
set_option maxRecDepth 20000 in
theorem ggL_law_X6_meanLeafSize : GoodIn wsL_law wsX6_meanLeafSize := goodIn_r _ [735, 16, 678, 270, 271, 679, 680, 681, 38, 682, 52, 192, 182, 183, 805, 806, 807, 808, 809, 822, 823, 824, 825, 831, 832, 833, 834, 835, 836] (by decide +kernel) (by decide +kernel)
set_option maxRecDepth 20000 in
theorem gL_law_X6_meanLeafSize : GoodIn wsL_law (wsV RL 192 RX6 yX6_meanLeafSize wsX6_meanLeafSize) := goodIn_app (goodIn_of _ (by decide +kernel)) ggL_law_X6_meanLeafSize
set_option maxRecDepth 20000 in
theorem ggL_law_X7_meanLeafSize : GoodIn wsL_law wsX7_meanLeafSize := goodIn_r _ [739, 221, 73, 687, 688, 689, 5, 690, 810, 811, 812, 813, 814, 815, 816, 817, 818, 819, 820, 821] (by decide +kernel) (by decide +kernel)
set_option maxRecDepth 20000 in
theorem gL_law_X7_meanLeafSize : GoodIn wsL_law (wsV RL 196 RX7 yX7_meanLeafSize wsX7_meanLeafSize) := goodIn_app (goodIn_of _ (by decide +kernel)) ggL_law_X7_meanLeafSize
set_option maxRecDepth 20000 in
theorem ggL_law_L_leavesIfAdded : GoodIn wsL_law wsL_leavesIfAdded := goodIn_ca (goodIn_ca (goodIn_r _ [742, 80, 81, 743, 744, 745, 2, 746, 16, 678, 270, 86, 87, 88, 89, 90, 91, 27, 92, 93, 94, 95, 26, 96, 67, 97, 98, 99, 100, 101, 102, 103, 104, 105, 106, 107, 108, 109, 110, 111, 112, 113, 114, 115, 15, 116, 35, 117, 118, 119, 34, 120, 48, 121, 122, 123, 124, 42, 125, 126, 127, 128, 47, 626, 160, 161, 162, 163, 164, 747, 748, 749, 38, 750, 52, 177, 178, 179, 180, 181, 182, 183, 184, 185, 186, 169, 170, 171, 172, 46, 751, 680, 681, 682, 192, 805, 806, 807, 808, 809, 822, 823, 824, 825, 829, 830, 831, 832, 833, 834, 835, 836] (by decide +kernel) (by decide +kernel)) (goodIn_sub (fun _ h => List.mem_append_left _ (List.mem_append_left _ (List.mem_append_right _ h))) (by decide +kernel))) (goodIn_sub (fun _ h => List.mem_append_left _ (List.mem_append_right _ h)) (by decide +kernel))
set_option maxRecDepth 20000 in
theorem gL_law_L_leavesIfAdded : GoodIn wsL_law (va_wsS RL 197 yL_leavesIfAdded wsL_leavesIfAdded) := goodIn_app (goodIn_of _ (by decide +kernel)) ggL_law_L_leavesIfAdded
set_option maxRecDepth 20000 in
theorem ggL_law_X7_leavesIfAdded : GoodIn wsL_law wsX7_leavesIfAdded := goodIn_r _ [755, 197, 73, 198, 199, 200, 5, 201, 75, 202, 203, 204, 205, 206, 207, 208, 209, 210, 211, 212, 213, 214, 215, 216, 217, 218, 219, 220, 221, 235, 236, 237, 238, 247, 248, 249, 250, 251, 252, 253, 254, 687, 688, 689, 690, 810, 811, 812, 813, 814, 815, 816, 817, 818, 819, 820, 821] (by decide +kernel) (by decide +kernel)
set_option maxRecDepth 20000 in
theorem gL_law_X7_leavesIfAdded : GoodIn wsL_law (wsV RL 199 RX7 yX7_leavesIfAdded wsX7_leavesIfAdded) := goodIn_app (goodIn_of _ (by decide +kernel)) ggL_law_X7_leavesIfAdded
set_option maxRecDepth 20000 in
theorem ggL_law_L_position : GoodIn wsL_law wsL_position := goodIn_ca (goodIn_r _ [758, 265, 759, 760, 761, 2, 762, 16, 344, 345, 346, 347, 276, 277, 805, 806, 807, 808, 809, 822, 823, 824, 825] (by decide +kernel) (by decide +kernel)) (goodIn_sub (fun _ h => List.mem_append_right _ h) (by decide +kernel))
set_option maxRecDepth 20000 in
theorem gL_law_L_position : GoodIn wsL_law (va_wsS RL 200 yL_position wsL_position) := goodIn_app (goodIn_of _ (by decide +kernel)) ggL_law_L_position
set_option maxRecDepth 20000 in
theorem ggL_law_X7_position : GoodIn wsL_law wsX7_position := goodIn_r _ [766, 73, 360, 361, 5, 362, 202, 203, 204, 217, 218, 219, 220, 221, 810, 811, 812, 813, 814, 815, 816, 817, 818, 819, 820, 821] (by decide +kernel) (by decide +kernel)
set_option maxRecDepth 20000 in
theorem gL_law_X7_position : GoodIn wsL_law (wsV RL 202 RX7 yX7_position wsX7_position) := goodIn_app (goodIn_of _ (by decide +kernel)) ggL_law_X7_position
set_option maxRecDepth 20000 in
theorem ggL_law_L_peek : GoodIn wsL_law wsL_peek := goodIn_ca (goodIn_r _ [769, 265, 770, 771, 772, 2, 773, 16, 270, 271, 345, 346, 347, 276, 277, 378, 353, 354, 15, 355, 41, 395, 396, 397, 398, 35, 399, 170, 171, 34, 172, 48, 46, 400, 283, 284, 285, 805, 806, 807, 808, 809, 822, 823, 824, 825, 831, 832, 833] (by decide +kernel) (by decide +kernel)) (goodIn_sub (fun _ h => List.mem_append_right _ h) (by decide +kernel))
set_option maxRecDepth 20000 in
theorem gL_law_L_peek : GoodIn wsL_law (va_wsS RL 203 yL_peek wsL_peek) := goodIn_app (goodIn_of _ (by decide +kernel)) ggL_law_L_peek
set_option maxRecDepth 20000 in
theorem ggL_law_X7_peek : GoodIn wsL_law wsX7_peek := goodIn_r _ [777, 73, 360, 361, 5, 362, 202, 203, 204, 217, 218, 219, 220, 221, 405, 406, 407, 408, 239, 240, 241, 242, 213, 214, 215, 216, 363, 364, 365, 366, 810, 811, 812, 813, 814, 815, 816, 817, 818, 819, 820, 821] (by decide +kernel) (by decide +kernel)
set_option maxRecDepth 20000 in
theorem gL_law_X7_peek : GoodIn wsL_law (wsV RL 205 RX7 yX7_peek wsX7_peek) := goodIn_app (goodIn_of _ (by decide +kernel)) ggL_law_X7_peek
set_option maxRecDepth 20000 in
theorem ggL_law_L_remaining : GoodIn wsL_law wsL_remaining := goodIn_ca (goodIn_r _ [780, 265, 781, 782, 783, 2, 784, 16, 270, 271, 345, 346, 347, 276, 277, 378, 353, 354, 15, 355, 41, 395, 396, 397, 398, 35, 399, 170, 171, 34, 172, 48, 46, 805, 806, 807, 808, 809, 822, 823, 824, 825, 831, 832, 833] (by decide +kernel) (by decide +kernel)) (goodIn_sub (fun _ h => List.mem_append_right _ h) (by decide +kernel))
set_option maxRecDepth 20000 in
theorem gL_law_L_remaining : GoodIn wsL_law (va_wsS RL 206 yL_remaining wsL_remaining) := goodIn_app (goodIn_of _ (by decide +kernel)) ggL_law_L_remaining
set_option maxRecDepth 20000 in
theorem ggL_law_X7_remaining : GoodIn wsL_law wsX7_remaining := goodIn_r _ [788, 73, 360, 361, 5, 362, 202, 203, 204, 217, 218, 219, 220, 221, 363, 364, 365, 366, 405, 406, 407, 408, 239, 240, 241, 242, 213, 214, 215, 216, 810, 811, 812, 813, 814, 815, 816, 817, 818, 819, 820, 821] (by decide +kernel) (by decide +kernel)
set_option maxRecDepth 20000 in
theorem gL_law_X7_remaining : GoodIn wsL_law (wsV RL 208 RX7 yX7_remaining wsX7_remaining) := goodIn_app (goodIn_of _ (by decide +kernel)) ggL_law_X7_remaining
set_option maxRecDepth 20000 in
theorem ggL_law_X6_savedStates : GoodIn wsL_law wsX6_savedStates := goodIn_r _ [792, 20, 554, 805, 806, 807, 808, 809, 826, 827, 828] (by decide +kernel) (by decide +kernel)
set_option maxRecDepth 20000 in
theorem gL_law_X6_savedStates : GoodIn wsL_law (wsV RL 209 RX6 yX6_savedStates wsX6_savedStates) := goodIn_app (goodIn_of _ (by decide +kernel)) ggL_law_X6_savedStates
set_option maxRecDepth 20000 in
theorem ggL_law_X7_savedStates : GoodIn wsL_law wsX7_savedStates := goodIn_r _ [796, 221, 226, 810, 811, 812, 813, 814, 815, 816, 817, 818, 819, 820, 821] (by decide +kernel) (by decide +kernel)
set_option maxRecDepth 20000 in
theorem gL_law_X7_savedStates : GoodIn wsL_law (wsV RL 212 RX7 yX7_savedStates wsX7_savedStates) := goodIn_app (goodIn_of _ (by decide +kernel)) ggL_law_X7_savedStates
set_option maxRecDepth 20000 in
theorem ggL_law_X6_textLength : GoodIn wsL_law wsX6_textLength := goodIn_r _ [800, 27, 92, 805, 806, 807, 808, 809, 829, 830] (by decide +kernel) (by decide +kernel)
set_option maxRecDepth 20000 in
theorem gL_law_X6_textLength : GoodIn wsL_law (wsV RL 213 RX6 yX6_textLength wsX6_textLength) := goodIn_app (goodIn_of _ (by decide +kernel)) ggL_law_X6_textLength
set_option maxRecDepth 20000 in
theorem ggL_law_X7_textLength : GoodIn wsL_law wsX7_textLength := goodIn_r _ [804, 221, 197, 810, 811, 812, 813, 814, 815, 816, 817, 818, 819, 820, 821] (by decide +kernel) (by decide +kernel)
set_option maxRecDepth 20000 in
theorem gL_law_X7_textLength : GoodIn wsL_law (wsV RL 216 RX7 yX7_textLength wsX7_textLength) := goodIn_app (goodIn_of _ (by decide +kernel)) ggL_law_X7_textLength
