theorem mem_r {big : List Cond} (ws : List Cond) (ps : List Nat) (hp : ws = ps.filterMap (fun i => big[i]?)) : ∀ w ∈ ws, w ∈ big := by
  intro w hw
  rw [hp] at hw
  obtain ⟨i, -, hi⟩ := List.mem_filterMap.mp hw
  exact List.mem_of_getElem? hi
set_option maxRecDepth 20000 in
theorem in_wsL_law0_r1 : ∀ w ∈ wsL_law0_r1, w ∈ lw_tbl := mem_r _ [38, 39, 27, 417, 418, 29, 595, 40, 41, 42, 43, 44, 45, 83, 49, 50, 51, 52, 53, 84, 54, 55, 56, 57] (by decide +kernel)
set_option maxRecDepth 20000 in
theorem in_wsL_law0_r2 : ∀ w ∈ wsL_law0_r2, w ∈ lw_tbl := mem_r _ [58, 59, 46, 47, 28, 48, 419, 420, 421, 422, 424, 425, 429, 430, 85, 86, 26, 87, 88, 89, 90, 91, 92, 96] (by decide +kernel)
set_option maxRecDepth 20000 in
theorem in_wsL_law0_r3 : ∀ w ∈ wsL_law0_r3, w ∈ lw_tbl := mem_r _ [33, 93, 94, 95, 166, 167, 168, 461, 462, 463, 464, 423, 465, 466, 467, 468, 469, 470, 457, 458, 459, 460, 169, 170] (by decide +kernel)
set_option maxRecDepth 20000 in
theorem in_wsL_law0_r4 : ∀ w ∈ wsL_law0_r4, w ∈ lw_tbl := mem_r _ [171, 172, 173, 174, 175, 176, 177, 179, 1, 180, 181, 34, 471, 472, 473, 474, 197, 198, 199, 200, 201, 202, 203, 475] (by decide +kernel)
set_option maxRecDepth 20000 in
theorem in_wsL_law0_r5 : ∀ w ∈ wsL_law0_r5, w ∈ lw_tbl := mem_r _ [476, 477, 478, 204, 205, 206, 207, 208, 209, 210, 479, 480, 481, 482, 211, 212, 213, 214, 215, 216, 217, 483, 484, 485] (by decide +kernel)
set_option maxRecDepth 20000 in
theorem in_wsL_law0_r6 : ∀ w ∈ wsL_law0_r6, w ∈ lw_tbl := mem_r _ [486, 218, 219, 220, 221, 222, 223, 224, 225, 226, 228, 2, 229, 230, 35, 487, 488, 489, 490, 491, 493, 15, 494, 495] (by decide +kernel)
set_option maxRecDepth 20000 in
theorem in_wsL_law0_r7 : ∀ w ∈ wsL_law0_r7, w ∈ lw_tbl := mem_r _ [497, 16, 498, 246, 247, 248, 249, 250, 251, 252, 253, 255, 3, 256, 257, 258, 259, 260, 261, 262, 263, 264, 36, 265] (by decide +kernel)
set_option maxRecDepth 20000 in
theorem in_wsL_law0_r8 : ∀ w ∈ wsL_law0_r8, w ∈ lw_tbl := mem_r _ [266, 267, 268, 499, 500, 501, 502, 503, 505, 17, 506, 507, 508, 509, 510, 511, 512, 513, 514, 515, 516, 517, 269, 270] (by decide +kernel)
set_option maxRecDepth 20000 in
theorem in_wsL_law0_r9 : ∀ w ∈ wsL_law0_r9, w ∈ lw_tbl := mem_r _ [271, 272, 273, 274, 275, 276, 277, 278, 279, 280, 281, 286, 287, 288, 518, 519, 520, 521, 522, 523, 524, 525, 526, 527] (by decide +kernel)
set_option maxRecDepth 20000 in
theorem in_wsL_law0_r10 : ∀ w ∈ wsL_law0_r10, w ∈ lw_tbl := mem_r _ [528, 529, 530, 289, 290, 291, 292, 293, 294, 295, 296, 297, 37, 531, 532, 533, 534, 426, 427, 428, 314, 315, 316, 317] (by decide +kernel)
set_option maxRecDepth 20000 in
theorem in_wsL_law0_r11 : ∀ w ∈ wsL_law0_r11, w ∈ lw_tbl := mem_r _ [318, 319, 320, 322, 324, 4, 325, 327, 329, 5, 330, 332, 334, 6, 335, 336, 338, 7, 339, 340, 342, 8, 343, 344] (by decide +kernel)
set_option maxRecDepth 20000 in
theorem in_wsL_law0_r12 : ∀ w ∈ wsL_law0_r12, w ∈ lw_tbl := mem_r _ [345, 346, 347, 349, 9, 350, 535, 536, 537, 538, 431, 432, 433, 539, 541, 18, 542, 543, 545, 19, 546, 547, 549, 20] (by decide +kernel)
set_option maxRecDepth 20000 in
theorem in_wsL_law0_r13 : ∀ w ∈ wsL_law0_r13, w ∈ lw_tbl := mem_r _ [550, 551, 553, 21, 554, 351, 352, 353, 354, 355, 356, 357, 555, 556, 557, 558, 359, 360, 361, 362, 363, 364, 365, 366] (by decide +kernel)
set_option maxRecDepth 20000 in
theorem in_wsL_law0_r14 : ∀ w ∈ wsL_law0_r14, w ∈ lw_tbl := mem_r _ [368, 10, 369, 559, 560, 561, 562, 371, 372, 373, 374, 375, 376, 377, 378, 380, 11, 381, 563, 564, 565, 566, 567, 569] (by decide +kernel)
set_option maxRecDepth 20000 in
theorem in_wsL_law0_r15 : ∀ w ∈ wsL_law0_r15, w ∈ lw_tbl := mem_r _ [22, 570, 571, 573, 23, 574, 383, 384, 385, 386, 387, 388, 389, 575, 576, 577, 578, 390, 391, 392, 393, 394, 395, 396] (by decide +kernel)
set_option maxRecDepth 20000 in
theorem in_wsL_law0_r16 : ∀ w ∈ wsL_law0_r16, w ∈ lw_tbl := mem_r _ [579, 580, 581, 582, 583, 585, 24, 586, 397, 398, 399, 400, 401, 402, 403, 404, 406, 12, 407, 408, 410, 13, 411, 412] (by decide +kernel)
set_option maxRecDepth 20000 in
theorem in_wsL_law0_r17 : ∀ w ∈ wsL_law0_r17, w ∈ lw_tbl := mem_r _ [414, 14, 415, 587, 588, 589, 590, 591, 593, 25, 594] (by decide +kernel)
set_option maxRecDepth 20000 in
theorem in_wsX00 : ∀ w ∈ wsX00, w ∈ lw_tbl := mem_r _ [60, 62, 64, 66, 68, 70, 72, 74, 76, 78, 80] (by decide +kernel)
set_option maxRecDepth 20000 in
theorem in_wsX10 : ∀ w ∈ wsX10, w ∈ lw_tbl := mem_r _ [434, 436, 438, 440, 442, 444, 446, 448, 450, 452, 454] (by decide +kernel)
theorem wsL_law_in0 : ∀ w ∈ wsL_law0, w ∈ lw_tbl := fun w h => (List.mem_append.mp h).elim (fun h => (List.mem_append.mp h).elim (fun h => (List.mem_append.mp h).elim (fun h => (List.mem_append.mp h).elim (fun h => in_wsL_law0_r1 w h) (fun h => (List.mem_append.mp h).elim (fun h => in_wsL_law0_r2 w h) (fun h => (List.mem_append.mp h).elim (fun h => in_wsL_law0_r3 w h) (fun h => (List.mem_append.mp h).elim (fun h => in_wsL_law0_r4 w h) (fun h => (List.mem_append.mp h).elim (fun h => in_wsL_law0_r5 w h) (fun h => (List.mem_append.mp h).elim (fun h => in_wsL_law0_r6 w h) (fun h => (List.mem_append.mp h).elim (fun h => in_wsL_law0_r7 w h) (fun h => (List.mem_append.mp h).elim (fun h => in_wsL_law0_r8 w h) (fun h => (List.mem_append.mp h).elim (fun h => in_wsL_law0_r9 w h) (fun h => (List.mem_append.mp h).elim (fun h => in_wsL_law0_r10 w h) (fun h => (List.mem_append.mp h).elim (fun h => in_wsL_law0_r11 w h) (fun h => (List.mem_append.mp h).elim (fun h => in_wsL_law0_r12 w h) (fun h => (List.mem_append.mp h).elim (fun h => in_wsL_law0_r13 w h) (fun h => (List.mem_append.mp h).elim (fun h => in_wsL_law0_r14 w h) (fun h => (List.mem_append.mp h).elim (fun h => in_wsL_law0_r15 w h) (fun h => (List.mem_append.mp h).elim (fun h => in_wsL_law0_r16 w h) (fun h => in_wsL_law0_r17 w h))))))))))))))))) (fun h => in_wsX00 w h)) (fun h => in_wsX10 w h)) (fun h => nomatch h)
theorem wsL_law_x0 : ∀ w ∈ (vx_atS RX0 59 "java/lang/IllegalArgumentException" ["java/lang/RuntimeException", "java/lang/Exception"]).filter goodWord, w ∈ lw_tbl := mem_r _ [30, 118, 127, 132, 135, 137, 119, 120, 44, 45, 121, 126, 133, 153, 108, 154, 110, 155, 112, 122, 124, 114, 149, 150, 152, 114, 140, 141, 142, 143, 143, 144, 145, 146, 146, 147, 148, 149, 139, 97, 105, 106, 107, 109, 111, 113, 117, 116, 115] (by decide +kernel)
theorem wsL_law_x1 : ∀ w ∈ (vx_atS RX0 149 "java/lang/IllegalStateException" ["java/lang/RuntimeException", "java/lang/Exception"]).filter goodWord, w ∈ lw_tbl := mem_r _ [30, 118, 127, 132, 135, 137, 119, 120, 44, 45, 121, 126, 133, 153, 108, 154, 110, 155, 112, 122, 124, 114, 149, 150, 152, 114, 192, 193, 194, 143, 143, 144, 145, 146, 146, 147, 148, 149, 191, 182, 184, 129, 185, 186, 187, 188, 117, 116, 189] (by decide +kernel)
theorem wsL_law_x2 : ∀ w ∈ (vx_atS RX0 154 "java/lang/IndexOutOfBoundsException" ["java/lang/RuntimeException", "java/lang/Exception"]).filter goodWord, w ∈ lw_tbl := mem_r _ [30, 118, 127, 132, 135, 137, 119, 120, 44, 45, 121, 126, 133, 153, 108, 154, 110, 155, 112, 122, 124, 114, 149, 150, 152, 114, 241, 242, 243, 143, 143, 144, 145, 146, 146, 147, 148, 149, 240, 231, 233, 130, 234, 235, 236, 237, 117, 116, 238] (by decide +kernel)
theorem wsL_law_x3 : ∀ w ∈ (vx_atS RX0 91 "java/lang/UnsupportedOperationException" ["java/lang/RuntimeException", "java/lang/Exception"]).filter goodWord, w ∈ lw_tbl := mem_r _ [30, 118, 127, 132, 135, 137, 119, 120, 44, 45, 121, 126, 133, 153, 108, 154, 110, 155, 112, 122, 124, 114, 149, 150, 152, 114, 308, 309, 310, 143, 143, 144, 145, 146, 146, 147, 148, 149, 307, 298, 300, 131, 301, 302, 303, 304, 117, 116, 305] (by decide +kernel)
theorem wsL_law_in : ∀ w ∈ wsL_law, w ∈ lw_tbl := fun w h => (List.mem_append.mp h).elim (fun h => (List.mem_append.mp h).elim (fun h => (List.mem_append.mp h).elim (fun h => (List.mem_append.mp h).elim (fun h => wsL_law_in0 w h) (fun h => wsL_law_x0 w h)) (fun h => wsL_law_x1 w h)) (fun h => wsL_law_x2 w h)) (fun h => wsL_law_x3 w h)
theorem inlX0 : ∀ w ∈ wsX00, w ∈ wsL_law := fun _ h => List.mem_append_left _ (List.mem_append_left _ (List.mem_append_left _ (List.mem_append_left _ (List.mem_append_left _ (List.mem_append_left _ (List.mem_append_right _ h))))))
theorem inX0 : ∀ w ∈ wsX00, w ∈ lw_tbl := fun w h => wsL_law_in w (inlX0 w h)
theorem inlX1 : ∀ w ∈ wsX10, w ∈ wsL_law := fun _ h => List.mem_append_left _ (List.mem_append_left _ (List.mem_append_left _ (List.mem_append_left _ (List.mem_append_left _ (List.mem_append_right _ h)))))
theorem inX1 : ∀ w ∈ wsX10, w ∈ lw_tbl := fun w h => wsL_law_in w (inlX1 w h)
theorem inJ9 : ∀ w ∈ wsJ90, w ∈ lw_tbl := by decide +kernel
theorem inJ0 : ∀ w ∈ wsJ00, w ∈ lw_tbl := by decide +kernel
theorem inJ7 : ∀ w ∈ wsJ70, w ∈ lw_tbl := by decide +kernel
abbrev vwCl : List vw_C := [(RX0, TX0, 11), (RX1, TX1, 11)]
