theorem zla_of {ws : List Cond} (ps : List Nat) (hp : ws = ps.filterMap (fun i => lw_tbl[i]?)) : ∀ w ∈ ws, w ∈ lw_tbl := by
  intro w hw
  rw [hp] at hw
  obtain ⟨i, -, hi⟩ := List.mem_filterMap.mp hw
  exact List.mem_of_getElem? hi
theorem zla_app {a b : List Cond} (h1 : ∀ w ∈ a, w ∈ lw_tbl) (h2 : ∀ w ∈ b, w ∈ lw_tbl) : ∀ w ∈ a ++ b, w ∈ lw_tbl := fun w h => (List.mem_append.mp h).elim (h1 w) (h2 w)
set_option maxRecDepth 20000 in
theorem zla_wsL_law0_r1 : ∀ w ∈ wsL_law0_r1, w ∈ lw_tbl := zla_of [52, 53, 37, 727, 728, 43, 1027, 54, 55, 56, 57, 58, 59, 60, 61, 38, 158, 123, 124, 41, 159, 160, 157, 161] (by decide +kernel)
set_option maxRecDepth 20000 in
theorem zla_wsL_law0_r2 : ∀ w ∈ wsL_law0_r2, w ∈ lw_tbl := zla_of [143, 144, 42, 162, 62, 63, 64, 65, 66, 67, 39, 107, 87, 88, 40, 109, 86, 111, 113, 69, 70, 71, 72, 74] (by decide +kernel)
set_option maxRecDepth 20000 in
theorem zla_wsL_law0_r3 : ∀ w ∈ wsL_law0_r3, w ∈ lw_tbl := zla_of [76, 90, 91, 92, 93, 96, 98, 125, 126, 127, 128, 129, 132, 133, 134, 131, 146, 147, 148, 149, 150, 729, 730, 731] (by decide +kernel)
set_option maxRecDepth 20000 in
theorem zla_wsL_law0_r4 : ∀ w ∈ wsL_law0_r4, w ∈ lw_tbl := zla_of [732, 734, 736, 737, 234, 235, 36, 236, 237, 238, 239, 240, 241, 242, 243, 245, 0, 246, 257, 48, 151, 247, 248, 249] (by decide +kernel)
set_option maxRecDepth 20000 in
theorem zla_wsL_law0_r5 : ∀ w ∈ wsL_law0_r5, w ∈ lw_tbl := zla_of [250, 193, 194, 44, 195, 251, 252, 253, 254, 255, 256, 325, 327, 2, 328, 345, 49, 329, 330, 331, 332, 333, 334, 335] (by decide +kernel)
set_option maxRecDepth 20000 in
theorem zla_wsL_law0_r6 : ∀ w ∈ wsL_law0_r6, w ∈ lw_tbl := zla_of [336, 337, 338, 339, 340, 341, 342, 343, 344, 361, 362, 363, 364, 365, 366, 367, 368, 381, 375, 374, 50, 369, 370, 371] (by decide +kernel)
set_option maxRecDepth 20000 in
theorem zla_wsL_law0_r7 : ∀ w ∈ wsL_law0_r7, w ∈ lw_tbl := zla_of [372, 373, 376, 377, 378, 379, 380, 178, 179, 180, 181, 382, 383, 384, 385, 386, 387, 388, 389, 390, 391, 392, 393, 394] (by decide +kernel)
set_option maxRecDepth 20000 in
theorem zla_wsL_law0_r8 : ∀ w ∈ wsL_law0_r8, w ∈ lw_tbl := zla_of [395, 396, 397, 398, 399, 400, 401, 402, 403, 404, 405, 406, 407, 408, 212, 213, 409, 410, 411, 412, 414, 3, 415, 416] (by decide +kernel)
set_option maxRecDepth 20000 in
theorem zla_wsL_law0_r9 : ∀ w ∈ wsL_law0_r9, w ∈ lw_tbl := zla_of [211, 774, 775, 776, 777, 738, 778, 780, 10, 781, 782, 783, 784, 785, 787, 11, 788, 789, 791, 12, 792, 793, 795, 13] (by decide +kernel)
set_option maxRecDepth 20000 in
theorem zla_wsL_law0_r10 : ∀ w ∈ wsL_law0_r10, w ∈ lw_tbl := zla_of [796, 797, 799, 14, 800, 733, 801, 803, 15, 804, 735, 805, 807, 16, 808, 809, 811, 17, 812, 813, 815, 18, 816, 817] (by decide +kernel)
set_option maxRecDepth 20000 in
theorem zla_wsL_law0_r11 : ∀ w ∈ wsL_law0_r11, w ∈ lw_tbl := zla_of [819, 19, 820, 821, 823, 20, 824, 825, 827, 21, 828, 829, 831, 22, 832, 833, 834, 835, 770, 771, 772, 773, 417, 418] (by decide +kernel)
set_option maxRecDepth 20000 in
theorem zla_wsL_law0_r12 : ∀ w ∈ wsL_law0_r12, w ∈ lw_tbl := zla_of [419, 420, 421, 422, 423, 424, 108, 77, 425, 427, 4, 428, 437, 51, 429, 430, 431, 432, 433, 434, 435, 436, 453, 454] (by decide +kernel)
set_option maxRecDepth 20000 in
theorem zla_wsL_law0_r13 : ∀ w ∈ wsL_law0_r13, w ∈ lw_tbl := zla_of [455, 456, 457, 458, 459, 460, 461, 462, 463, 464, 465, 466, 467, 468, 469, 470, 471, 836, 837, 838, 839, 840, 842, 23] (by decide +kernel)
set_option maxRecDepth 20000 in
theorem zla_wsL_law0_r14 : ∀ w ∈ wsL_law0_r14, w ∈ lw_tbl := zla_of [843, 844, 846, 24, 847, 848, 850, 25, 851, 852, 854, 26, 855, 472, 473, 474, 475, 476, 477, 478, 479, 856, 857, 858] (by decide +kernel)
set_option maxRecDepth 20000 in
theorem zla_wsL_law0_r15 : ∀ w ∈ wsL_law0_r15, w ∈ lw_tbl := zla_of [859, 481, 482, 483, 484, 485, 486, 487, 112, 488, 489, 490, 492, 493, 494, 495, 496, 497, 498, 499, 860, 861, 862, 863] (by decide +kernel)
set_option maxRecDepth 20000 in
theorem zla_wsL_law0_r16 : ∀ w ∈ wsL_law0_r16, w ∈ lw_tbl := zla_of [864, 865, 866, 867, 869, 27, 870, 500, 501, 502, 503, 504, 505, 506, 507, 509, 5, 510, 511, 871, 872, 873, 874, 875] (by decide +kernel)
set_option maxRecDepth 20000 in
theorem zla_wsL_law0_r17 : ∀ w ∈ wsL_law0_r17, w ∈ lw_tbl := zla_of [877, 28, 878, 513, 514, 515, 516, 517, 518, 519, 73, 520, 521, 522, 523, 524, 525, 879, 880, 881, 882, 883, 885, 29] (by decide +kernel)
set_option maxRecDepth 20000 in
theorem zla_wsL_law0_r18 : ∀ w ∈ wsL_law0_r18, w ∈ lw_tbl := zla_of [886, 526, 527, 528, 529, 530, 531, 532, 533, 534, 535, 536, 78, 94, 537, 887, 888, 889, 890, 538, 539, 540, 541, 542] (by decide +kernel)
set_option maxRecDepth 20000 in
theorem zla_wsL_law0_r19 : ∀ w ∈ wsL_law0_r19, w ∈ lw_tbl := zla_of [543, 544, 545, 891, 892, 893, 894, 895, 547, 548, 549, 550, 551, 552, 553, 556, 557, 558, 559, 896, 897, 898, 899, 174] (by decide +kernel)
set_option maxRecDepth 20000 in
theorem zla_wsL_law0_r20 : ∀ w ∈ wsL_law0_r20, w ∈ lw_tbl := zla_of [175, 176, 177, 900, 901, 902, 903, 182, 183, 184, 185, 186, 187, 188, 189, 190, 191, 192, 196, 197, 198, 904, 905, 906] (by decide +kernel)
set_option maxRecDepth 20000 in
theorem zla_wsL_law0_r21 : ∀ w ∈ wsL_law0_r21, w ∈ lw_tbl := zla_of [907, 739, 908, 910, 30, 911, 912, 914, 31, 915, 740, 741, 742, 743, 744, 916, 918, 32, 919, 920, 922, 33, 923, 560] (by decide +kernel)
set_option maxRecDepth 20000 in
theorem zla_wsL_law0_r22 : ∀ w ∈ wsL_law0_r22, w ∈ lw_tbl := zla_of [561, 562, 563, 564, 565, 566, 568, 569, 570, 571, 572, 574, 6, 575, 576, 577, 578, 579, 580, 582, 7, 583, 584, 586] (by decide +kernel)
set_option maxRecDepth 20000 in
theorem zla_wsL_law0_r23 : ∀ w ∈ wsL_law0_r23, w ∈ lw_tbl := zla_of [8, 587, 588, 589, 590, 591, 592, 593, 595, 9, 596, 924, 925, 926, 927, 928, 930, 34, 931, 597, 598, 599, 600, 601] (by decide +kernel)
set_option maxRecDepth 20000 in
theorem zla_wsL_law0_r24 : ∀ w ∈ wsL_law0_r24, w ∈ lw_tbl := zla_of [602, 603, 135, 605, 606, 607, 608, 932, 933, 934, 935, 609, 610, 611, 612, 613, 614, 615, 616, 617, 618, 620, 936, 937] (by decide +kernel)
set_option maxRecDepth 20000 in
theorem zla_wsL_law0_r25 : ∀ w ∈ wsL_law0_r25, w ∈ lw_tbl := zla_of [938, 939, 621, 622, 623, 624, 625, 626, 627, 940, 941, 942, 943, 199, 200, 201, 202, 944, 945, 946, 947, 629, 630, 631] (by decide +kernel)
set_option maxRecDepth 20000 in
theorem zla_wsL_law0_r26 : ∀ w ∈ wsL_law0_r26, w ∈ lw_tbl := zla_of [632, 633, 634, 635, 948, 949, 950, 951, 637, 638, 639, 640, 641, 642, 643, 952, 953, 954, 955, 644, 645, 646, 647, 648] (by decide +kernel)
set_option maxRecDepth 20000 in
theorem zla_wsL_law0_r27 : ∀ w ∈ wsL_law0_r27, w ∈ lw_tbl := zla_of [649, 650, 651, 956, 957, 958, 959, 652, 653, 654, 655, 656, 657, 658, 659, 960, 961, 962, 963, 660, 661, 662, 663, 664] (by decide +kernel)
set_option maxRecDepth 20000 in
theorem zla_wsL_law0_r28 : ∀ w ∈ wsL_law0_r28, w ∈ lw_tbl := zla_of [665, 666, 75, 667, 964, 965, 966, 967, 668, 669, 670, 671, 672, 673, 674, 675, 676, 677, 679, 968, 969, 970, 971, 972] (by decide +kernel)
set_option maxRecDepth 20000 in
theorem zla_wsL_law0_r29 : ∀ w ∈ wsL_law0_r29, w ∈ lw_tbl := zla_of [973, 974, 203, 204, 205, 206, 110, 207, 208, 209, 210, 975, 976, 977, 978, 979, 981, 35, 982, 680, 681, 682, 683, 684] (by decide +kernel)
set_option maxRecDepth 20000 in
theorem zla_wsL_law0_r30 : ∀ w ∈ wsL_law0_r30, w ∈ lw_tbl := zla_of [685, 686, 95, 983, 984, 985, 986, 687, 688, 689, 690, 691, 692, 693, 987, 988, 989, 990, 214, 215, 216, 217, 97, 991] (by decide +kernel)
set_option maxRecDepth 20000 in
theorem zla_wsL_law0_r31 : ∀ w ∈ wsL_law0_r31, w ∈ lw_tbl := zla_of [992, 993, 994, 218, 219, 220, 221, 99, 995, 996, 997, 998, 222, 223, 224, 225, 999, 1000, 1001, 1002, 694, 695, 696, 697] (by decide +kernel)
set_option maxRecDepth 20000 in
theorem zla_wsL_law0_r32 : ∀ w ∈ wsL_law0_r32, w ∈ lw_tbl := zla_of [698, 699, 700, 701, 702, 703, 704, 705, 1003, 1004, 1005, 1006, 706, 707, 708, 709, 710, 711, 712, 1007, 1008, 1009, 1010, 713] (by decide +kernel)
set_option maxRecDepth 20000 in
theorem zla_wsL_law0_r33 : ∀ w ∈ wsL_law0_r33, w ∈ lw_tbl := zla_of [714, 715, 716, 717, 718, 719, 1011, 1012, 1013, 1014, 720, 721, 722, 723, 724, 725, 726, 1015, 1016, 1017, 1018, 226, 227, 228] (by decide +kernel)
set_option maxRecDepth 20000 in
theorem zla_wsL_law0_r34 : ∀ w ∈ wsL_law0_r34, w ∈ lw_tbl := zla_of [229, 1019, 1020, 1021, 1022, 230, 231, 232, 233, 1023, 1024, 1025, 1026] (by decide +kernel)
set_option maxRecDepth 20000 in
theorem zla_wsX60 : ∀ w ∈ wsX60, w ∈ lw_tbl := zla_of [163, 165, 167, 169, 171] (by decide +kernel)
set_option maxRecDepth 20000 in
theorem zla_wsX70 : ∀ w ∈ wsX70, w ∈ lw_tbl := zla_of [745, 747, 749, 751, 753, 755, 757, 759, 761, 763, 765, 767] (by decide +kernel)
set_option maxRecDepth 20000 in
theorem zla_wsX30 : ∀ w ∈ wsX30, w ∈ lw_tbl := zla_of [114, 116, 118, 120] (by decide +kernel)
set_option maxRecDepth 20000 in
theorem zla_wsX10 : ∀ w ∈ wsX10, w ∈ lw_tbl := zla_of [136, 138, 140] (by decide +kernel)
set_option maxRecDepth 20000 in
theorem zla_wsX40 : ∀ w ∈ wsX40, w ∈ lw_tbl := zla_of [152, 154] (by decide +kernel)
set_option maxRecDepth 20000 in
theorem zla_wsX00 : ∀ w ∈ wsX00, w ∈ lw_tbl := zla_of [79, 81, 83] (by decide +kernel)
set_option maxRecDepth 20000 in
theorem zla_wsX50 : ∀ w ∈ wsX50, w ∈ lw_tbl := zla_of [100, 102, 104] (by decide +kernel)
theorem wsL_law_in0 : ∀ w ∈ wsL_law0, w ∈ lw_tbl := (zla_app (zla_app (zla_app (zla_app (zla_app (zla_app (zla_app (zla_app (zla_app zla_wsL_law0_r1 (zla_app zla_wsL_law0_r2 (zla_app zla_wsL_law0_r3 (zla_app zla_wsL_law0_r4 (zla_app zla_wsL_law0_r5 (zla_app zla_wsL_law0_r6 (zla_app zla_wsL_law0_r7 (zla_app zla_wsL_law0_r8 (zla_app zla_wsL_law0_r9 (zla_app zla_wsL_law0_r10 (zla_app zla_wsL_law0_r11 (zla_app zla_wsL_law0_r12 (zla_app zla_wsL_law0_r13 (zla_app zla_wsL_law0_r14 (zla_app zla_wsL_law0_r15 (zla_app zla_wsL_law0_r16 (zla_app zla_wsL_law0_r17 (zla_app zla_wsL_law0_r18 (zla_app zla_wsL_law0_r19 (zla_app zla_wsL_law0_r20 (zla_app zla_wsL_law0_r21 (zla_app zla_wsL_law0_r22 (zla_app zla_wsL_law0_r23 (zla_app zla_wsL_law0_r24 (zla_app zla_wsL_law0_r25 (zla_app zla_wsL_law0_r26 (zla_app zla_wsL_law0_r27 (zla_app zla_wsL_law0_r28 (zla_app zla_wsL_law0_r29 (zla_app zla_wsL_law0_r30 (zla_app zla_wsL_law0_r31 (zla_app zla_wsL_law0_r32 (zla_app zla_wsL_law0_r33 zla_wsL_law0_r34))))))))))))))))))))))))))))))))) zla_wsX60) zla_wsX70) zla_wsX30) zla_wsX10) zla_wsX40) zla_wsX00) zla_wsX50) (fun _ h => absurd h List.not_mem_nil))
theorem wsL_law_x0 : ∀ w ∈ (vx_atS RX6 114 "java/lang/IllegalArgumentException" ["java/lang/RuntimeException", "java/lang/Exception"]).filter goodWord, w ∈ lw_tbl := by decide +kernel
theorem wsL_law_x1 : ∀ w ∈ (vx_atS RX6 81 "java/lang/IllegalStateException" ["java/lang/RuntimeException", "java/lang/Exception"]).filter goodWord, w ∈ lw_tbl := by decide +kernel
theorem wsL_law_x2 : ∀ w ∈ (vx_atS RX6 155 "java/lang/IndexOutOfBoundsException" ["java/lang/RuntimeException", "java/lang/Exception"]).filter goodWord, w ∈ lw_tbl := by decide +kernel
theorem wsL_law_in : ∀ w ∈ wsL_law, w ∈ lw_tbl := fun w h => (List.mem_append.mp h).elim (fun h => (List.mem_append.mp h).elim (fun h => (List.mem_append.mp h).elim (fun h => wsL_law_in0 w h) (fun h => wsL_law_x0 w h)) (fun h => wsL_law_x1 w h)) (fun h => wsL_law_x2 w h)
theorem inlX0 : ∀ w ∈ wsX00, w ∈ wsL_law := fun _ h => List.mem_append_left _ (List.mem_append_left _ (List.mem_append_left _ (List.mem_append_left _ (List.mem_append_left _ (List.mem_append_right _ h)))))
theorem inX0 : ∀ w ∈ wsX00, w ∈ lw_tbl := fun w h => wsL_law_in w (inlX0 w h)
theorem inlX1 : ∀ w ∈ wsX10, w ∈ wsL_law := fun _ h => List.mem_append_left _ (List.mem_append_left _ (List.mem_append_left _ (List.mem_append_left _ (List.mem_append_left _ (List.mem_append_left _ (List.mem_append_left _ (List.mem_append_right _ h)))))))
theorem inX1 : ∀ w ∈ wsX10, w ∈ lw_tbl := fun w h => wsL_law_in w (inlX1 w h)
theorem inX2 : ∀ w ∈ wsX20, w ∈ lw_tbl := by decide +kernel
theorem inlX3 : ∀ w ∈ wsX30, w ∈ wsL_law := fun _ h => List.mem_append_left _ (List.mem_append_left _ (List.mem_append_left _ (List.mem_append_left _ (List.mem_append_left _ (List.mem_append_left _ (List.mem_append_left _ (List.mem_append_left _ (List.mem_append_right _ h))))))))
theorem inX3 : ∀ w ∈ wsX30, w ∈ lw_tbl := fun w h => wsL_law_in w (inlX3 w h)
theorem inlX4 : ∀ w ∈ wsX40, w ∈ wsL_law := fun _ h => List.mem_append_left _ (List.mem_append_left _ (List.mem_append_left _ (List.mem_append_left _ (List.mem_append_left _ (List.mem_append_left _ (List.mem_append_right _ h))))))
theorem inX4 : ∀ w ∈ wsX40, w ∈ lw_tbl := fun w h => wsL_law_in w (inlX4 w h)
theorem inlX5 : ∀ w ∈ wsX50, w ∈ wsL_law := fun _ h => List.mem_append_left _ (List.mem_append_left _ (List.mem_append_left _ (List.mem_append_left _ (List.mem_append_right _ h))))
theorem inX5 : ∀ w ∈ wsX50, w ∈ lw_tbl := fun w h => wsL_law_in w (inlX5 w h)
theorem inlX6 : ∀ w ∈ wsX60, w ∈ wsL_law := fun _ h => List.mem_append_left _ (List.mem_append_left _ (List.mem_append_left _ (List.mem_append_left _ (List.mem_append_left _ (List.mem_append_left _ (List.mem_append_left _ (List.mem_append_left _ (List.mem_append_left _ (List.mem_append_left _ (List.mem_append_right _ h))))))))))
theorem inX6 : ∀ w ∈ wsX60, w ∈ lw_tbl := fun w h => wsL_law_in w (inlX6 w h)
theorem inlX7 : ∀ w ∈ wsX70, w ∈ wsL_law := fun _ h => List.mem_append_left _ (List.mem_append_left _ (List.mem_append_left _ (List.mem_append_left _ (List.mem_append_left _ (List.mem_append_left _ (List.mem_append_left _ (List.mem_append_left _ (List.mem_append_left _ (List.mem_append_right _ h)))))))))
theorem inX7 : ∀ w ∈ wsX70, w ∈ lw_tbl := fun w h => wsL_law_in w (inlX7 w h)
theorem inJ0 : ∀ w ∈ wsJ00, w ∈ lw_tbl := by decide +kernel
theorem inJ10 : ∀ w ∈ wsJ100, w ∈ lw_tbl := by decide +kernel
