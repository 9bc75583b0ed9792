theorem zla_of {ws : List Cond} (ps : List Nat) (hp : ws = ps.filterMap (fun i => lw_tbl[i]?)) : ∀ w ∈ ws, w ∈ lw_tbl := by
  intro w hw
  rw [hp] at hw
  obtain ⟨i, -, hi⟩ := List.mem_filterMap.mp hw
  exact List.mem_of_getElem? hi
theorem zla_app {a b : List Cond} (h1 : ∀ w ∈ a, w ∈ lw_tbl) (h2 : ∀ w ∈ b, w ∈ lw_tbl) : ∀ w ∈ a ++ b, w ∈ lw_tbl := fun w h => (List.mem_append.mp h).elim (h1 w) (h2 w)
set_option maxRecDepth 20000 in
theorem zla_wsL_law0_r1 : ∀ w ∈ wsL_law0_r1, w ∈ lw_tbl := zla_of [21, 22, 7, 23, 24, 25, 26, 27, 28, 29, 30, 8, 127, 92, 93, 11, 128, 129, 126, 130, 112, 113, 12, 131] (by decide +kernel)
set_option maxRecDepth 20000 in
theorem zla_wsL_law0_r2 : ∀ w ∈ wsL_law0_r2, w ∈ lw_tbl := zla_of [31, 32, 33, 34, 35, 36, 9, 76, 56, 57, 10, 78, 55, 80, 82, 38, 39, 40, 41, 43, 45, 59, 60, 61] (by decide +kernel)
set_option maxRecDepth 20000 in
theorem zla_wsL_law0_r3 : ∀ w ∈ wsL_law0_r3, w ∈ lw_tbl := zla_of [62, 65, 67, 94, 95, 96, 97, 98, 101, 102, 103, 100, 115, 116, 117, 118, 119, 236, 237, 238, 239, 77, 46, 240] (by decide +kernel)
set_option maxRecDepth 20000 in
theorem zla_wsL_law0_r4 : ∀ w ∈ wsL_law0_r4, w ∈ lw_tbl := zla_of [241, 242, 243, 16, 259, 220, 221, 222, 235, 229, 228, 17, 223, 224, 225, 226, 227, 230, 231, 232, 233, 234, 545, 546] (by decide +kernel)
set_option maxRecDepth 20000 in
theorem zla_wsL_law0_r5 : ∀ w ∈ wsL_law0_r5, w ∈ lw_tbl := zla_of [6, 547, 260, 261, 262, 263, 548, 549, 550, 551, 79, 552, 553, 554, 555, 460, 446, 447, 280, 281, 282, 283, 66, 284] (by decide +kernel)
set_option maxRecDepth 20000 in
theorem zla_wsL_law0_r6 : ∀ w ∈ wsL_law0_r6, w ∈ lw_tbl := zla_of [285, 286, 287, 68, 327, 328, 329, 330, 64, 331, 332, 333, 556, 557, 558, 559, 560, 442, 443, 444, 445, 448, 449, 450] (by decide +kernel)
set_option maxRecDepth 20000 in
theorem zla_wsL_law0_r7 : ∀ w ∈ wsL_law0_r7, w ∈ lw_tbl := zla_of [451, 452, 453, 454, 561, 562, 563, 564, 288, 289, 290, 291, 293, 294, 295, 296, 298, 299, 300, 301, 302, 304, 1, 305] (by decide +kernel)
set_option maxRecDepth 20000 in
theorem zla_wsL_law0_r8 : ∀ w ∈ wsL_law0_r8, w ∈ lw_tbl := zla_of [306, 307, 308, 309, 310, 312, 313, 314, 315, 316, 317, 318, 319, 44, 320, 321, 18, 322, 323, 324, 325, 565, 566, 567] (by decide +kernel)
set_option maxRecDepth 20000 in
theorem zla_wsL_law0_r9 : ∀ w ∈ wsL_law0_r9, w ∈ lw_tbl := zla_of [568, 268, 269, 270, 271, 276, 277, 278, 279, 297, 326, 335, 336, 337, 338, 81, 339, 340, 341, 264, 265, 266, 267, 104] (by decide +kernel)
set_option maxRecDepth 20000 in
theorem zla_wsL_law0_r10 : ∀ w ∈ wsL_law0_r10, w ∈ lw_tbl := zla_of [343, 344, 345, 487, 272, 273, 274, 275, 346, 347, 348, 349, 350, 351, 352, 120, 353, 354, 355, 356, 357, 358, 359, 360] (by decide +kernel)
set_option maxRecDepth 20000 in
theorem zla_wsL_law0_r11 : ∀ w ∈ wsL_law0_r11, w ∈ lw_tbl := zla_of [361, 19, 147, 20, 378, 379, 380, 381, 382, 383, 384, 385, 386, 388, 2, 389, 390, 391, 392, 393, 394, 395, 396, 397] (by decide +kernel)
set_option maxRecDepth 20000 in
theorem zla_wsL_law0_r12 : ∀ w ∈ wsL_law0_r12, w ∈ lw_tbl := zla_of [398, 399, 401, 402, 403, 404, 405, 406, 407, 408, 409, 410, 411, 412, 219, 413, 414, 415, 416, 417, 418, 419, 420, 421] (by decide +kernel)
set_option maxRecDepth 20000 in
theorem zla_wsL_law0_r13 : ∀ w ∈ wsL_law0_r13, w ∈ lw_tbl := zla_of [422, 423, 424, 425, 426, 427, 428, 429, 430, 431, 432, 433, 434, 435, 436, 437, 438, 439, 440, 441, 455, 457, 3, 458] (by decide +kernel)
set_option maxRecDepth 20000 in
theorem zla_wsL_law0_r14 : ∀ w ∈ wsL_law0_r14, w ∈ lw_tbl := zla_of [459, 461, 462, 463, 464, 465, 466, 467, 468, 469, 471, 472, 473, 474, 475, 476, 477, 478, 479, 480, 481, 482, 483, 484] (by decide +kernel)
set_option maxRecDepth 20000 in
theorem zla_wsL_law0_r15 : ∀ w ∈ wsL_law0_r15, w ∈ lw_tbl := zla_of [485, 486, 488, 489, 490, 491, 492, 494, 496, 4, 497, 498, 500, 501, 502, 503, 42, 504, 505, 506, 507, 508, 509, 510] (by decide +kernel)
set_option maxRecDepth 20000 in
theorem zla_wsL_law0_r16 : ∀ w ∈ wsL_law0_r16, w ∈ lw_tbl := zla_of [511, 512, 47, 63, 513, 514, 515, 516, 517, 518, 519, 520, 521, 522, 523, 524, 525, 527, 528, 529, 530, 531, 533, 5] (by decide +kernel)
set_option maxRecDepth 20000 in
theorem zla_wsL_law0_r17 : ∀ w ∈ wsL_law0_r17, w ∈ lw_tbl := zla_of [534, 535, 536, 537, 538, 539, 540, 541, 542, 543, 143, 144, 145, 146, 215, 216, 217, 218, 569, 570, 571, 572, 573, 574] (by decide +kernel)
set_option maxRecDepth 20000 in
theorem zla_wsL_law0_r18 : ∀ w ∈ wsL_law0_r18, w ∈ lw_tbl := zla_of [575, 576, 577, 578, 579, 580, 581, 582, 583, 584, 585, 586, 587, 588, 589, 590, 591, 592, 593, 594, 595, 596] (by decide +kernel)
set_option maxRecDepth 20000 in
theorem zla_wsX60 : ∀ w ∈ wsX60, w ∈ lw_tbl := zla_of [132, 134, 136, 138, 140] (by decide +kernel)
set_option maxRecDepth 20000 in
theorem zla_wsX30 : ∀ w ∈ wsX30, w ∈ lw_tbl := zla_of [83, 85, 87, 89] (by decide +kernel)
set_option maxRecDepth 20000 in
theorem zla_wsX10 : ∀ w ∈ wsX10, w ∈ lw_tbl := zla_of [105, 107, 109] (by decide +kernel)
set_option maxRecDepth 20000 in
theorem zla_wsX40 : ∀ w ∈ wsX40, w ∈ lw_tbl := zla_of [121, 123] (by decide +kernel)
set_option maxRecDepth 20000 in
theorem zla_wsX00 : ∀ w ∈ wsX00, w ∈ lw_tbl := zla_of [48, 50, 52] (by decide +kernel)
set_option maxRecDepth 20000 in
theorem zla_wsX50 : ∀ w ∈ wsX50, w ∈ lw_tbl := zla_of [69, 71, 73] (by decide +kernel)
theorem wsL_law_in0 : ∀ w ∈ wsL_law0, w ∈ lw_tbl := (zla_app (zla_app (zla_app (zla_app (zla_app (zla_app (zla_app (zla_app zla_wsL_law0_r1 (zla_app zla_wsL_law0_r2 (zla_app zla_wsL_law0_r3 (zla_app zla_wsL_law0_r4 (zla_app zla_wsL_law0_r5 (zla_app zla_wsL_law0_r6 (zla_app zla_wsL_law0_r7 (zla_app zla_wsL_law0_r8 (zla_app zla_wsL_law0_r9 (zla_app zla_wsL_law0_r10 (zla_app zla_wsL_law0_r11 (zla_app zla_wsL_law0_r12 (zla_app zla_wsL_law0_r13 (zla_app zla_wsL_law0_r14 (zla_app zla_wsL_law0_r15 (zla_app zla_wsL_law0_r16 (zla_app zla_wsL_law0_r17 zla_wsL_law0_r18))))))))))))))))) zla_wsX60) zla_wsX30) zla_wsX10) zla_wsX40) zla_wsX00) zla_wsX50) (fun _ h => absurd h List.not_mem_nil))
theorem wsL_law_x0 : ∀ w ∈ (vx_atS RX6 155 "java/lang/IndexOutOfBoundsException" ["java/lang/RuntimeException", "java/lang/Exception"]).filter goodWord, w ∈ lw_tbl := by decide +kernel
theorem wsL_law_x1 : ∀ w ∈ (vx_atS RX6 114 "java/lang/IllegalArgumentException" ["java/lang/RuntimeException", "java/lang/Exception"]).filter goodWord, w ∈ lw_tbl := by decide +kernel
theorem wsL_law_x2 : ∀ w ∈ (vx_atS RX6 81 "java/lang/IllegalStateException" ["java/lang/RuntimeException", "java/lang/Exception"]).filter goodWord, w ∈ lw_tbl := by decide +kernel
theorem wsL_law_in : ∀ w ∈ wsL_law, w ∈ lw_tbl := fun w h => (List.mem_append.mp h).elim (fun h => (List.mem_append.mp h).elim (fun h => (List.mem_append.mp h).elim (fun h => wsL_law_in0 w h) (fun h => wsL_law_x0 w h)) (fun h => wsL_law_x1 w h)) (fun h => wsL_law_x2 w h)
theorem inlX0 : ∀ w ∈ wsX00, w ∈ wsL_law := fun _ h => List.mem_append_left _ (List.mem_append_left _ (List.mem_append_left _ (List.mem_append_left _ (List.mem_append_left _ (List.mem_append_right _ h)))))
theorem inX0 : ∀ w ∈ wsX00, w ∈ lw_tbl := fun w h => wsL_law_in w (inlX0 w h)
theorem inlX1 : ∀ w ∈ wsX10, w ∈ wsL_law := fun _ h => List.mem_append_left _ (List.mem_append_left _ (List.mem_append_left _ (List.mem_append_left _ (List.mem_append_left _ (List.mem_append_left _ (List.mem_append_left _ (List.mem_append_right _ h)))))))
theorem inX1 : ∀ w ∈ wsX10, w ∈ lw_tbl := fun w h => wsL_law_in w (inlX1 w h)
theorem inX2 : ∀ w ∈ wsX20, w ∈ lw_tbl := by decide +kernel
theorem inlX3 : ∀ w ∈ wsX30, w ∈ wsL_law := fun _ h => List.mem_append_left _ (List.mem_append_left _ (List.mem_append_left _ (List.mem_append_left _ (List.mem_append_left _ (List.mem_append_left _ (List.mem_append_left _ (List.mem_append_left _ (List.mem_append_right _ h))))))))
theorem inX3 : ∀ w ∈ wsX30, w ∈ lw_tbl := fun w h => wsL_law_in w (inlX3 w h)
theorem inlX4 : ∀ w ∈ wsX40, w ∈ wsL_law := fun _ h => List.mem_append_left _ (List.mem_append_left _ (List.mem_append_left _ (List.mem_append_left _ (List.mem_append_left _ (List.mem_append_left _ (List.mem_append_right _ h))))))
theorem inX4 : ∀ w ∈ wsX40, w ∈ lw_tbl := fun w h => wsL_law_in w (inlX4 w h)
theorem inlX5 : ∀ w ∈ wsX50, w ∈ wsL_law := fun _ h => List.mem_append_left _ (List.mem_append_left _ (List.mem_append_left _ (List.mem_append_left _ (List.mem_append_right _ h))))
theorem inX5 : ∀ w ∈ wsX50, w ∈ lw_tbl := fun w h => wsL_law_in w (inlX5 w h)
theorem inlX6 : ∀ w ∈ wsX60, w ∈ wsL_law := fun _ h => List.mem_append_left _ (List.mem_append_left _ (List.mem_append_left _ (List.mem_append_left _ (List.mem_append_left _ (List.mem_append_left _ (List.mem_append_left _ (List.mem_append_left _ (List.mem_append_left _ (List.mem_append_right _ h)))))))))
theorem inX6 : ∀ w ∈ wsX60, w ∈ lw_tbl := fun w h => wsL_law_in w (inlX6 w h)
theorem inX7 : ∀ w ∈ wsX70, w ∈ lw_tbl := by decide +kernel
theorem inJ0 : ∀ w ∈ wsJ00, w ∈ lw_tbl := by decide +kernel
theorem inJ10 : ∀ w ∈ wsJ100, w ∈ lw_tbl := by decide +kernel
