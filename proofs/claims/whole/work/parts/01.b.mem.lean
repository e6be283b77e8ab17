theorem zm_r {big : List Cond} (ws : List Cond) (ps : List Nat) (hp : ws = ps.filterMap (fun i => big[i]?)) : ∀ w ∈ ws, w ∈ big := by
  intro w hw
  rw [hp] at hw
  obtain ⟨i, -, hi⟩ := List.mem_filterMap.mp hw
  exact List.mem_of_getElem? hi
set_option maxRecDepth 20000 in
theorem mwsL_law_r1 : ∀ w ∈ wsL_law_r1, w ∈ lw_tbl := zm_r _ [49, 50, 40, 497, 498, 47, 779, 51, 52, 53, 54, 55, 56, 57, 58, 41, 227, 90, 91, 42, 228, 229, 230, 89] rfl
set_option maxRecDepth 20000 in
theorem mwsL_law_r2 : ∀ w ∈ wsL_law_r2, w ∈ lw_tbl := zm_r _ [231, 136, 137, 43, 232, 158, 159, 44, 233, 234, 185, 186, 45, 235, 236, 261, 237, 60, 61, 62, 63, 72, 76, 93] rfl
set_option maxRecDepth 20000 in
theorem mwsL_law_r3 : ∀ w ∈ wsL_law_r3, w ∈ lw_tbl := zm_r _ [94, 95, 98, 100, 102, 104, 105, 106, 110, 139, 140, 141, 148, 161, 162, 163, 184, 164, 187, 188, 189, 190, 191, 194] rfl
set_option maxRecDepth 20000 in
theorem mwsL_law_r4 : ∀ w ∈ wsL_law_r4, w ∈ lw_tbl := zm_r _ [202, 203, 204, 205, 64, 96, 97, 68, 73, 77, 206, 208, 0, 209, 107, 108, 109, 210, 211, 212, 213, 214, 216, 1] rfl
set_option maxRecDepth 20000 in
theorem mwsL_law_r5 : ∀ w ∈ wsL_law_r5, w ∈ lw_tbl := zm_r _ [217, 219, 220, 221, 222, 46, 223, 224, 225, 226, 499, 500, 501, 502, 503, 504, 505, 507, 508, 509, 510, 511, 512, 515] rfl
set_option maxRecDepth 20000 in
theorem mwsL_law_r6 : ∀ w ∈ wsL_law_r6, w ∈ lw_tbl := zm_r _ [516, 519, 520, 262, 263, 264, 265, 66, 266, 267, 268, 269, 67, 270, 271, 272, 273, 195, 274, 276, 2, 277, 278, 279] rfl
set_option maxRecDepth 20000 in
theorem mwsL_law_r7 : ∀ w ∈ wsL_law_r7, w ∈ lw_tbl := zm_r _ [280, 281, 282, 284, 283, 48, 564, 565, 566, 567, 568, 569, 570, 571, 572, 574, 11, 575, 576, 578, 12, 579, 506, 285] rfl
set_option maxRecDepth 20000 in
theorem mwsL_law_r8 : ∀ w ∈ wsL_law_r8, w ∈ lw_tbl := zm_r _ [286, 287, 288, 71, 99, 289, 291, 3, 292, 293, 294, 295, 296, 297, 298, 299, 300, 580, 581, 582, 583, 584, 586, 13] rfl
set_option maxRecDepth 20000 in
theorem mwsL_law_r9 : ∀ w ∈ wsL_law_r9, w ∈ lw_tbl := zm_r _ [587, 588, 590, 14, 591, 592, 594, 15, 595, 596, 598, 16, 599, 514, 513, 600, 602, 17, 603, 604, 606, 18, 607, 608] rfl
set_option maxRecDepth 20000 in
theorem mwsL_law_r10 : ∀ w ∈ wsL_law_r10, w ∈ lw_tbl := zm_r _ [610, 19, 611, 301, 302, 303, 304, 305, 306, 307, 308, 309, 310, 311, 312, 313, 314, 315, 316, 318, 319, 612, 613, 614] rfl
set_option maxRecDepth 20000 in
theorem mwsL_law_r11 : ∀ w ∈ wsL_law_r11, w ∈ lw_tbl := zm_r _ [615, 616, 618, 20, 619, 620, 622, 21, 623, 320, 321, 322, 323, 324, 325, 326, 624, 625, 626, 627, 628, 630, 22, 631] rfl
set_option maxRecDepth 20000 in
theorem mwsL_law_r12 : ∀ w ∈ wsL_law_r12, w ∈ lw_tbl := zm_r _ [632, 634, 23, 635, 327, 328, 329, 330, 79, 636, 637, 638, 639, 331, 332, 333, 334, 75, 166, 335, 336, 337, 338, 69] rfl
set_option maxRecDepth 20000 in
theorem mwsL_law_r13 : ∀ w ∈ wsL_law_r13, w ∈ lw_tbl := zm_r _ [165, 167, 339, 341, 4, 342, 168, 170, 343, 345, 5, 346, 347, 349, 6, 350, 169, 351, 353, 7, 354, 355, 357, 8] rfl
set_option maxRecDepth 20000 in
theorem mwsL_law_r14 : ∀ w ∈ wsL_law_r14, w ∈ lw_tbl := zm_r _ [358, 359, 762, 763, 764, 765, 521, 517, 766, 743, 744, 745, 518, 746, 748, 35, 749, 522, 750, 752, 36, 753, 754, 756] rfl
set_option maxRecDepth 20000 in
theorem mwsL_law_r15 : ∀ w ∈ wsL_law_r15, w ∈ lw_tbl := zm_r _ [37, 757, 758, 760, 38, 761, 360, 361, 362, 363, 101, 364, 365, 366, 367, 368, 369, 370, 371, 640, 641, 642, 643, 644] rfl
set_option maxRecDepth 20000 in
theorem mwsL_law_r16 : ∀ w ∈ wsL_law_r16, w ∈ lw_tbl := zm_r _ [646, 24, 647, 648, 650, 25, 651, 652, 654, 26, 655, 372, 373, 374, 375, 376, 377, 378, 379, 380, 381, 382, 383, 384] rfl
set_option maxRecDepth 20000 in
theorem mwsL_law_r17 : ∀ w ∈ wsL_law_r17, w ∈ lw_tbl := zm_r _ [385, 386, 387, 388, 656, 657, 658, 659, 660, 662, 27, 663, 664, 666, 28, 667, 668, 670, 29, 671, 389, 390, 391, 392] rfl
set_option maxRecDepth 20000 in
theorem mwsL_law_r18 : ∀ w ∈ wsL_law_r18, w ∈ lw_tbl := zm_r _ [103, 196, 393, 394, 395, 396, 672, 673, 674, 675, 676, 678, 30, 679, 397, 398, 399, 400, 401, 402, 403, 404, 406, 407] rfl
set_option maxRecDepth 20000 in
theorem mwsL_law_r19 : ∀ w ∈ wsL_law_r19, w ∈ lw_tbl := zm_r _ [680, 681, 682, 683, 684, 686, 31, 687, 688, 690, 32, 691, 692, 693, 694, 695, 696, 697, 408, 409, 410, 411, 698, 699] rfl
set_option maxRecDepth 20000 in
theorem mwsL_law_r20 : ∀ w ∈ wsL_law_r20, w ∈ lw_tbl := zm_r _ [700, 701, 412, 413, 414, 415, 416, 417, 418, 419, 420, 422, 9, 423, 424, 425, 426, 702, 703, 704, 705, 427, 428, 429] rfl
set_option maxRecDepth 20000 in
theorem mwsL_law_r21 : ∀ w ∈ wsL_law_r21, w ∈ lw_tbl := zm_r _ [430, 143, 145, 147, 431, 432, 433, 434, 142, 144, 146, 65, 435, 437, 10, 438, 70, 74, 440, 441, 442, 78, 443, 706] rfl
set_option maxRecDepth 20000 in
theorem mwsL_law_r22 : ∀ w ∈ wsL_law_r22, w ∈ lw_tbl := zm_r _ [707, 708, 709, 710, 711, 713, 33, 714, 445, 446, 447, 448, 449, 715, 716, 717, 718, 450, 451, 452, 453, 454, 719, 720] rfl
set_option maxRecDepth 20000 in
theorem mwsL_law_r23 : ∀ w ∈ wsL_law_r23, w ∈ lw_tbl := zm_r _ [721, 722, 723, 725, 34, 726, 455, 456, 457, 458, 727, 728, 729, 730, 459, 460, 461, 462, 466, 463, 464, 465, 467, 468] rfl
set_option maxRecDepth 20000 in
theorem mwsL_law_r24 : ∀ w ∈ wsL_law_r24, w ∈ lw_tbl := zm_r _ [469, 470, 471, 472, 731, 732, 733, 734, 735, 736, 737, 473, 474, 475, 476, 738, 739, 740, 741, 477, 478, 479, 480, 742] rfl
set_option maxRecDepth 20000 in
theorem mwsL_law_r25 : ∀ w ∈ wsL_law_r25, w ∈ lw_tbl := zm_r _ [481, 482, 483, 484, 485, 486, 487, 488, 767, 768, 769, 770, 489, 490, 491, 492, 771, 772, 773, 774, 493, 494, 495, 496] rfl
set_option maxRecDepth 20000 in
theorem mwsL_law_r26 : ∀ w ∈ wsL_law_r26, w ∈ lw_tbl := zm_r _ [775, 776, 777, 778] rfl
set_option maxRecDepth 20000 in
theorem mwsX00 : ∀ w ∈ wsX00, w ∈ lw_tbl := zm_r _ [149, 151, 153, 155] rfl
set_option maxRecDepth 20000 in
theorem mwsX10 : ∀ w ∈ wsX10, w ∈ lw_tbl := zm_r _ [197, 199] rfl
set_option maxRecDepth 20000 in
theorem mwsX20 : ∀ w ∈ wsX20, w ∈ lw_tbl := zm_r _ [171, 173, 175, 177, 179, 181] rfl
set_option maxRecDepth 20000 in
theorem mwsX30 : ∀ w ∈ wsX30, w ∈ lw_tbl := zm_r _ [80, 82, 84, 86] rfl
set_option maxRecDepth 20000 in
theorem mwsX40 : ∀ w ∈ wsX40, w ∈ lw_tbl := zm_r _ [111, 113, 115, 117, 119, 121, 123, 125, 127, 129, 131, 133] rfl
set_option maxRecDepth 20000 in
theorem mwsX50 : ∀ w ∈ wsX50, w ∈ lw_tbl := zm_r _ [238, 240, 242, 244, 246, 248, 250, 252, 254, 256, 258] rfl
set_option maxRecDepth 20000 in
theorem mwsX60 : ∀ w ∈ wsX60, w ∈ lw_tbl := zm_r _ [523, 525, 527, 529, 531, 533, 535, 537, 539, 541, 543, 545, 547, 549, 551, 553, 555, 557, 559, 561] rfl
theorem zm_app {big a b : List Cond} (ha : ∀ w ∈ a, w ∈ big) (hb : ∀ w ∈ b, w ∈ big) : ∀ w ∈ a ++ b, w ∈ big := fun w h => (List.mem_append.mp h).elim (ha w) (hb w)
theorem wsL_law_in : ∀ w ∈ wsL_law, w ∈ lw_tbl := zm_app (zm_app (zm_app (zm_app (zm_app (zm_app (zm_app (zm_app (zm_app mwsL_law_r1 (zm_app mwsL_law_r2 (zm_app mwsL_law_r3 (zm_app mwsL_law_r4 (zm_app mwsL_law_r5 (zm_app mwsL_law_r6 (zm_app mwsL_law_r7 (zm_app mwsL_law_r8 (zm_app mwsL_law_r9 (zm_app mwsL_law_r10 (zm_app mwsL_law_r11 (zm_app mwsL_law_r12 (zm_app mwsL_law_r13 (zm_app mwsL_law_r14 (zm_app mwsL_law_r15 (zm_app mwsL_law_r16 (zm_app mwsL_law_r17 (zm_app mwsL_law_r18 (zm_app mwsL_law_r19 (zm_app mwsL_law_r20 (zm_app mwsL_law_r21 (zm_app mwsL_law_r22 (zm_app mwsL_law_r23 (zm_app mwsL_law_r24 (zm_app mwsL_law_r25 (mwsL_law_r26)))))))))))))))))))))))))) mwsX50) mwsX60) mwsX30) mwsX40) mwsX00) mwsX20) mwsX10) (fun _ h => absurd h List.not_mem_nil)
theorem inlX0 : ∀ w ∈ wsX00, w ∈ wsL_law := fun _ h => List.mem_append_left _ (List.mem_append_left _ (List.mem_append_left _ (List.mem_append_right _ h)))
theorem inX0 : ∀ w ∈ wsX00, w ∈ lw_tbl := fun w h => wsL_law_in w (inlX0 w h)
theorem inlX1 : ∀ w ∈ wsX10, w ∈ wsL_law := fun _ h => List.mem_append_left _ (List.mem_append_right _ h)
theorem inX1 : ∀ w ∈ wsX10, w ∈ lw_tbl := fun w h => wsL_law_in w (inlX1 w h)
theorem inlX2 : ∀ w ∈ wsX20, w ∈ wsL_law := fun _ h => List.mem_append_left _ (List.mem_append_left _ (List.mem_append_right _ h))
theorem inX2 : ∀ w ∈ wsX20, w ∈ lw_tbl := fun w h => wsL_law_in w (inlX2 w h)
theorem inlX3 : ∀ w ∈ wsX30, w ∈ wsL_law := fun _ h => List.mem_append_left _ (List.mem_append_left _ (List.mem_append_left _ (List.mem_append_left _ (List.mem_append_left _ (List.mem_append_right _ h)))))
theorem inX3 : ∀ w ∈ wsX30, w ∈ lw_tbl := fun w h => wsL_law_in w (inlX3 w h)
theorem inlX4 : ∀ w ∈ wsX40, w ∈ wsL_law := fun _ h => List.mem_append_left _ (List.mem_append_left _ (List.mem_append_left _ (List.mem_append_left _ (List.mem_append_right _ h))))
theorem inX4 : ∀ w ∈ wsX40, w ∈ lw_tbl := fun w h => wsL_law_in w (inlX4 w h)
theorem inlX5 : ∀ w ∈ wsX50, w ∈ wsL_law := fun _ h => List.mem_append_left _ (List.mem_append_left _ (List.mem_append_left _ (List.mem_append_left _ (List.mem_append_left _ (List.mem_append_left _ (List.mem_append_left _ (List.mem_append_right _ h)))))))
theorem inX5 : ∀ w ∈ wsX50, w ∈ lw_tbl := fun w h => wsL_law_in w (inlX5 w h)
theorem inlX6 : ∀ w ∈ wsX60, w ∈ wsL_law := fun _ h => List.mem_append_left _ (List.mem_append_left _ (List.mem_append_left _ (List.mem_append_left _ (List.mem_append_left _ (List.mem_append_left _ (List.mem_append_right _ h))))))
theorem inX6 : ∀ w ∈ wsX60, w ∈ lw_tbl := fun w h => wsL_law_in w (inlX6 w h)
theorem inJ6 : ∀ w ∈ wsJ60, w ∈ lw_tbl := by decide +kernel
theorem inJ10 : ∀ w ∈ wsJ100, w ∈ lw_tbl := by decide +kernel
