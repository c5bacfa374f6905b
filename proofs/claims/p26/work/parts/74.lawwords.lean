/-! the words of the law among the words of the tables, by their places -/
theorem tblIn {ws : List Cond} (ps : List Nat) (hp : ws = ps.filterMap (fun i => lw_tbl[i]?)) : ∀ w ∈ ws, w ∈ lw_tbl := by
  intro w hw
  rw [hp] at hw
  obtain ⟨i, -, hi⟩ := List.mem_filterMap.mp hw
  exact List.mem_of_getElem? hi
set_option maxRecDepth 20000 in
theorem i_wsL_law0_r1 : ∀ w ∈ wsL_law0_r1, w ∈ lw_tbl := tblIn [34, 35, 19, 36, 37, 38, 39, 40, 41, 42, 43, 20, 155, 103, 104, 22, 156, 87, 157, 158, 123, 124, 23, 159] (by decide +kernel)
set_option maxRecDepth 20000 in
theorem i_wsL_law0_r2 : ∀ w ∈ wsL_law0_r2, w ∈ lw_tbl := tblIn [139, 50, 21, 160, 141, 142, 24, 161, 44, 45, 46, 47, 88, 90, 91, 48, 93, 51, 52, 53, 54, 60, 61, 105] (by decide +kernel)
set_option maxRecDepth 20000 in
theorem i_wsL_law0_r3 : ∀ w ∈ wsL_law0_r3, w ∈ lw_tbl := tblIn [106, 107, 108, 109, 112, 113, 114, 111, 125, 126, 127, 128, 129, 130, 131, 140, 143, 144, 145, 146, 147, 148, 316, 317] (by decide +kernel)
set_option maxRecDepth 20000 in
theorem i_wsL_law0_r4 : ∀ w ∈ wsL_law0_r4, w ∈ lw_tbl := tblIn [318, 319, 320, 322, 4, 323, 185, 28, 324, 292, 293, 294, 270, 271, 272, 273, 274, 276, 2, 277, 278, 279, 280, 281] (by decide +kernel)
set_option maxRecDepth 20000 in
theorem i_wsL_law0_r5 : ∀ w ∈ wsL_law0_r5, w ∈ lw_tbl := tblIn [283, 284, 285, 286, 29, 287, 288, 290, 289, 30, 291, 295, 296, 297, 298, 55, 58, 62, 64, 66, 68, 177, 178, 179] (by decide +kernel)
set_option maxRecDepth 20000 in
theorem i_wsL_law0_r6 : ∀ w ∈ wsL_law0_r6, w ∈ lw_tbl := tblIn [180, 254, 31, 253, 181, 183, 0, 184, 300, 301, 302, 303, 304, 305, 306, 307, 308, 310, 3, 311, 312, 313, 314, 315] (by decide +kernel)
set_option maxRecDepth 20000 in
theorem i_wsL_law0_r7 : ∀ w ∈ wsL_law0_r7, w ∈ lw_tbl := tblIn [380, 381, 18, 382, 387, 388, 389, 421, 383, 384, 385, 386, 390, 391, 392, 393, 395, 396, 397, 398, 399, 400, 401, 402] (by decide +kernel)
set_option maxRecDepth 20000 in
theorem i_wsL_law0_r8 : ∀ w ∈ wsL_law0_r8, w ∈ lw_tbl := tblIn [330, 331, 332, 403, 405, 7, 406, 407, 408, 409, 410, 411, 412, 413, 414, 415, 349, 350, 351, 352, 339, 340, 341, 342] (by decide +kernel)
set_option maxRecDepth 20000 in
theorem i_wsL_law0_r9 : ∀ w ∈ wsL_law0_r9, w ∈ lw_tbl := tblIn [343, 32, 344, 345, 346, 347, 416, 417, 418, 419, 420, 422, 423, 424, 425, 338, 426, 427, 428, 429, 430, 431, 432, 433] (by decide +kernel)
set_option maxRecDepth 20000 in
theorem i_wsL_law0_r10 : ∀ w ∈ wsL_law0_r10, w ∈ lw_tbl := tblIn [434, 357, 359, 6, 360, 361, 362, 363, 364, 365, 366, 367, 368, 370, 371, 373, 374, 375, 376, 377, 378, 435, 436, 437] (by decide +kernel)
set_option maxRecDepth 20000 in
theorem i_wsL_law0_r11 : ∀ w ∈ wsL_law0_r11, w ∈ lw_tbl := tblIn [438, 439, 440, 441, 442, 444, 445, 447, 8, 448, 450, 452, 9, 453, 454, 456, 10, 457, 459, 460, 461, 462, 463, 464] (by decide +kernel)
set_option maxRecDepth 20000 in
theorem i_wsL_law0_r12 : ∀ w ∈ wsL_law0_r12, w ∈ lw_tbl := tblIn [465, 466, 468, 11, 469, 470, 471, 472, 473, 474, 475, 476, 478, 479, 480, 481, 482, 483, 484, 485, 488, 489, 491, 12] (by decide +kernel)
set_option maxRecDepth 20000 in
theorem i_wsL_law0_r13 : ∀ w ∈ wsL_law0_r13, w ∈ lw_tbl := tblIn [492, 494, 495, 496, 497, 498, 499, 500, 501, 502, 503, 504, 326, 327, 328, 329, 334, 336, 5, 337, 348, 353, 354, 355] (by decide +kernel)
set_option maxRecDepth 20000 in
theorem i_wsL_law0_r14 : ∀ w ∈ wsL_law0_r14, w ∈ lw_tbl := tblIn [356, 379, 505, 506, 507, 508, 509, 510, 511, 513, 514, 515, 516, 517, 518, 519, 520, 521, 522, 523, 524, 525, 526, 527] (by decide +kernel)
set_option maxRecDepth 20000 in
theorem i_wsL_law0_r15 : ∀ w ∈ wsL_law0_r15, w ∈ lw_tbl := tblIn [528, 529, 530, 531, 532, 533, 535, 536, 537, 538, 539, 540, 541, 542, 543, 544, 545, 546, 547, 548, 549, 551, 13, 552] (by decide +kernel)
set_option maxRecDepth 20000 in
theorem i_wsL_law0_r16 : ∀ w ∈ wsL_law0_r16, w ∈ lw_tbl := tblIn [553, 554, 555, 556, 558, 14, 559, 560, 561, 562, 563, 564, 565, 566, 567, 568, 569, 571, 15, 572, 573, 574, 575, 576] (by decide +kernel)
set_option maxRecDepth 20000 in
theorem i_wsL_law0_r17 : ∀ w ∈ wsL_law0_r17, w ∈ lw_tbl := tblIn [577, 582, 33, 578, 579, 580, 581, 598, 599, 600, 601, 602, 603, 604, 605, 607, 16, 608, 609, 610, 611, 612, 614, 616] (by decide +kernel)
set_option maxRecDepth 20000 in
theorem i_wsL_law0_r18 : ∀ w ∈ wsL_law0_r18, w ∈ lw_tbl := tblIn [17, 617] (by decide +kernel)
set_option maxRecDepth 20000 in
theorem i_wsX50 : ∀ w ∈ wsX50, w ∈ lw_tbl := tblIn [162, 164, 166, 168, 170, 172, 174] (by decide +kernel)
set_option maxRecDepth 20000 in
theorem i_wsX40 : ∀ w ∈ wsX40, w ∈ lw_tbl := tblIn [94, 96, 98, 100] (by decide +kernel)
set_option maxRecDepth 20000 in
theorem i_wsX10 : ∀ w ∈ wsX10, w ∈ lw_tbl := tblIn [116, 118, 120] (by decide +kernel)
set_option maxRecDepth 20000 in
theorem i_wsX20 : ∀ w ∈ wsX20, w ∈ lw_tbl := tblIn [132, 134, 136] (by decide +kernel)
set_option maxRecDepth 20000 in
theorem i_wsX30 : ∀ w ∈ wsX30, w ∈ lw_tbl := tblIn [70, 72, 74, 76, 78, 80, 82, 84] (by decide +kernel)
set_option maxRecDepth 20000 in
theorem i_wsX00 : ∀ w ∈ wsX00, w ∈ lw_tbl := tblIn [150, 152] (by decide +kernel)
set_option maxRecDepth 100000 in
theorem wsL_law_in0 : ∀ w ∈ wsL_law0, w ∈ lw_tbl := fun w h => (fun h => (List.mem_append.mp h).elim (fun h => (List.mem_append.mp h).elim (fun h => (List.mem_append.mp h).elim (fun h => (List.mem_append.mp h).elim (fun h => (List.mem_append.mp h).elim (fun h => (List.mem_append.mp h).elim (fun h => (List.mem_append.mp h).elim (fun h => (List.mem_append.mp h).elim (i_wsL_law0_r1 w) (fun h => (List.mem_append.mp h).elim (i_wsL_law0_r2 w) (fun h => (List.mem_append.mp h).elim (i_wsL_law0_r3 w) (fun h => (List.mem_append.mp h).elim (i_wsL_law0_r4 w) (fun h => (List.mem_append.mp h).elim (i_wsL_law0_r5 w) (fun h => (List.mem_append.mp h).elim (i_wsL_law0_r6 w) (fun h => (List.mem_append.mp h).elim (i_wsL_law0_r7 w) (fun h => (List.mem_append.mp h).elim (i_wsL_law0_r8 w) (fun h => (List.mem_append.mp h).elim (i_wsL_law0_r9 w) (fun h => (List.mem_append.mp h).elim (i_wsL_law0_r10 w) (fun h => (List.mem_append.mp h).elim (i_wsL_law0_r11 w) (fun h => (List.mem_append.mp h).elim (i_wsL_law0_r12 w) (fun h => (List.mem_append.mp h).elim (i_wsL_law0_r13 w) (fun h => (List.mem_append.mp h).elim (i_wsL_law0_r14 w) (fun h => (List.mem_append.mp h).elim (i_wsL_law0_r15 w) (fun h => (List.mem_append.mp h).elim (i_wsL_law0_r16 w) (fun h => (List.mem_append.mp h).elim (i_wsL_law0_r17 w) (fun h => i_wsL_law0_r18 w h)))))))))))))))))) (i_wsX50 w)) (i_wsX40 w)) (i_wsX10 w)) (i_wsX20 w)) (i_wsX30 w)) (i_wsX00 w)) (fun h => absurd h List.not_mem_nil)) h
theorem wsL_law_x0 : ∀ w ∈ (vx_atS RX5 217 "java/lang/IndexOutOfBoundsException" ["java/lang/RuntimeException", "java/lang/Exception"]).filter goodWord, w ∈ lw_tbl := by decide +kernel
theorem wsL_law_x1 : ∀ w ∈ (vx_atS RX5 56 "java/lang/IllegalArgumentException" ["java/lang/RuntimeException", "java/lang/Exception"]).filter goodWord, w ∈ lw_tbl := by decide +kernel
theorem wsL_law_x2 : ∀ w ∈ (vx_atS RX5 115 "java/lang/IllegalStateException" ["java/lang/RuntimeException", "java/lang/Exception"]).filter goodWord, w ∈ lw_tbl := by decide +kernel
theorem wsL_law_in : ∀ w ∈ wsL_law, w ∈ lw_tbl := fun w h => (List.mem_append.mp h).elim (fun h => (List.mem_append.mp h).elim (fun h => (List.mem_append.mp h).elim (fun h => wsL_law_in0 w h) (fun h => wsL_law_x0 w h)) (fun h => wsL_law_x1 w h)) (fun h => wsL_law_x2 w h)
theorem inlX0 : ∀ w ∈ wsX00, w ∈ wsL_law := fun _ h => List.mem_append_left _ (List.mem_append_left _ (List.mem_append_left _ (List.mem_append_left _ (List.mem_append_right _ h))))
theorem inX0 : ∀ w ∈ wsX00, w ∈ lw_tbl := fun w h => wsL_law_in w (inlX0 w h)
theorem inlX1 : ∀ w ∈ wsX10, w ∈ wsL_law := fun _ h => List.mem_append_left _ (List.mem_append_left _ (List.mem_append_left _ (List.mem_append_left _ (List.mem_append_left _ (List.mem_append_left _ (List.mem_append_left _ (List.mem_append_right _ h)))))))
theorem inX1 : ∀ w ∈ wsX10, w ∈ lw_tbl := fun w h => wsL_law_in w (inlX1 w h)
theorem inlX2 : ∀ w ∈ wsX20, w ∈ wsL_law := fun _ h => List.mem_append_left _ (List.mem_append_left _ (List.mem_append_left _ (List.mem_append_left _ (List.mem_append_left _ (List.mem_append_left _ (List.mem_append_right _ h))))))
theorem inX2 : ∀ w ∈ wsX20, w ∈ lw_tbl := fun w h => wsL_law_in w (inlX2 w h)
theorem inlX3 : ∀ w ∈ wsX30, w ∈ wsL_law := fun _ h => List.mem_append_left _ (List.mem_append_left _ (List.mem_append_left _ (List.mem_append_left _ (List.mem_append_left _ (List.mem_append_right _ h)))))
theorem inX3 : ∀ w ∈ wsX30, w ∈ lw_tbl := fun w h => wsL_law_in w (inlX3 w h)
theorem inlX4 : ∀ w ∈ wsX40, w ∈ wsL_law := fun _ h => List.mem_append_left _ (List.mem_append_left _ (List.mem_append_left _ (List.mem_append_left _ (List.mem_append_left _ (List.mem_append_left _ (List.mem_append_left _ (List.mem_append_left _ (List.mem_append_right _ h))))))))
theorem inX4 : ∀ w ∈ wsX40, w ∈ lw_tbl := fun w h => wsL_law_in w (inlX4 w h)
theorem inlX5 : ∀ w ∈ wsX50, w ∈ wsL_law := fun _ h => List.mem_append_left _ (List.mem_append_left _ (List.mem_append_left _ (List.mem_append_left _ (List.mem_append_left _ (List.mem_append_left _ (List.mem_append_left _ (List.mem_append_left _ (List.mem_append_left _ (List.mem_append_right _ h)))))))))
theorem inX5 : ∀ w ∈ wsX50, w ∈ lw_tbl := fun w h => wsL_law_in w (inlX5 w h)
set_option maxRecDepth 20000 in
theorem i_wNest : ∀ w ∈ wNest, w ∈ lw_tbl := tblIn [56, 57, 59, 63, 65, 67, 69, 89, 92, 115, 149, 369, 372, 443, 534, 299, 486, 493, 458, 449, 282] (by decide +kernel)
