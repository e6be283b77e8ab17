theorem zm_r {big : List Cond} (ws : List Cond) (ps : List Nat) (hp : ws = ps.filterMap (fun i => big[i]?)) : ∀ w ∈ ws, w ∈ big := by
  intro w hw
  rw [hp] at hw
  obtain ⟨i, -, hi⟩ := List.mem_filterMap.mp hw
  exact List.mem_of_getElem? hi
set_option maxRecDepth 20000 in
theorem mwsL_law_r1 : ∀ w ∈ wsL_law_r1, w ∈ lw_tbl := zm_r _ [15, 16, 7, 17, 18, 19, 20, 21, 22, 23, 24, 8, 187, 55, 56, 9, 188, 189, 190, 54, 191, 101, 102, 10] rfl
set_option maxRecDepth 20000 in
theorem mwsL_law_r2 : ∀ w ∈ wsL_law_r2, w ∈ lw_tbl := zm_r _ [192, 123, 124, 11, 193, 194, 145, 146, 12, 195, 196, 221, 197, 26, 27, 28, 29, 37, 41, 58, 59, 60, 63, 65] rfl
set_option maxRecDepth 20000 in
theorem mwsL_law_r3 : ∀ w ∈ wsL_law_r3, w ∈ lw_tbl := zm_r _ [67, 69, 70, 71, 75, 104, 105, 106, 113, 126, 127, 128, 144, 129, 147, 148, 149, 150, 151, 154, 162, 163, 164, 165] rfl
set_option maxRecDepth 20000 in
theorem mwsL_law_r4 : ∀ w ∈ wsL_law_r4, w ∈ lw_tbl := zm_r _ [30, 61, 62, 34, 38, 42, 166, 168, 0, 169, 72, 73, 74, 170, 171, 172, 173, 174, 176, 1, 177, 179, 180, 181] rfl
set_option maxRecDepth 20000 in
theorem mwsL_law_r5 : ∀ w ∈ wsL_law_r5, w ∈ lw_tbl := zm_r _ [182, 13, 183, 184, 185, 186, 245, 246, 6, 247, 248, 249, 250, 251, 252, 222, 223, 224, 225, 32, 226, 227, 228, 229] rfl
set_option maxRecDepth 20000 in
theorem mwsL_law_r6 : ∀ w ∈ wsL_law_r6, w ∈ lw_tbl := zm_r _ [33, 230, 231, 232, 233, 155, 234, 236, 2, 237, 238, 239, 240, 241, 242, 244, 243, 14, 253, 254, 255, 256, 257, 258] rfl
set_option maxRecDepth 20000 in
theorem mwsL_law_r7 : ∀ w ∈ wsL_law_r7, w ∈ lw_tbl := zm_r _ [259, 36, 68, 130, 156, 260, 261, 262, 263, 264, 265, 266, 267, 268, 269, 270, 271, 272, 273, 274, 275, 276, 277, 278] rfl
set_option maxRecDepth 20000 in
theorem mwsL_law_r8 : ∀ w ∈ wsL_law_r8, w ∈ lw_tbl := zm_r _ [64, 279, 281, 3, 282, 283, 284, 285, 286, 287, 288, 289, 290, 291, 292, 293, 294, 295, 296, 297, 298, 299, 300, 301] rfl
set_option maxRecDepth 20000 in
theorem mwsL_law_r9 : ∀ w ∈ wsL_law_r9, w ∈ lw_tbl := zm_r _ [302, 303, 304, 305, 306, 307, 308, 309, 310, 311, 312, 314, 315, 316, 317, 318, 319, 320, 321, 322, 323, 324, 325, 326] rfl
set_option maxRecDepth 20000 in
theorem mwsL_law_r10 : ∀ w ∈ wsL_law_r10, w ∈ lw_tbl := zm_r _ [327, 328, 329, 330, 331, 40, 44, 66, 332, 333, 334, 335, 336, 337, 338, 339, 340, 341, 342, 343, 344, 345, 346, 347] rfl
set_option maxRecDepth 20000 in
theorem mwsL_law_r11 : ∀ w ∈ wsL_law_r11, w ∈ lw_tbl := zm_r _ [411, 412, 413, 414, 415, 416, 417, 418, 385, 386, 387, 389, 390, 368, 369, 370, 371, 359, 372, 373, 374, 375, 376, 377] rfl
set_option maxRecDepth 20000 in
theorem mwsL_law_r12 : ∀ w ∈ wsL_law_r12, w ∈ lw_tbl := zm_r _ [378, 379, 380, 382, 4, 383, 384, 391, 392, 393, 394, 395, 396, 108, 110, 112, 397, 398, 399, 400, 107, 109, 111, 31] rfl
set_option maxRecDepth 20000 in
theorem mwsL_law_r13 : ∀ w ∈ wsL_law_r13, w ∈ lw_tbl := zm_r _ [401, 403, 5, 404, 35, 39, 406, 407, 408, 43, 409, 348, 349, 350, 351, 352, 353, 354, 355, 356, 357, 358, 360, 361] rfl
set_option maxRecDepth 20000 in
theorem mwsL_law_r14 : ∀ w ∈ wsL_law_r14, w ∈ lw_tbl := zm_r _ [362, 363, 364, 365, 366, 367] rfl
set_option maxRecDepth 20000 in
theorem mwsX00 : ∀ w ∈ wsX00, w ∈ lw_tbl := zm_r _ [114, 116, 118, 120] rfl
set_option maxRecDepth 20000 in
theorem mwsX10 : ∀ w ∈ wsX10, w ∈ lw_tbl := zm_r _ [157, 159] rfl
set_option maxRecDepth 20000 in
theorem mwsX20 : ∀ w ∈ wsX20, w ∈ lw_tbl := zm_r _ [131, 133, 135, 137, 139, 141] rfl
set_option maxRecDepth 20000 in
theorem mwsX30 : ∀ w ∈ wsX30, w ∈ lw_tbl := zm_r _ [45, 47, 49, 51] rfl
set_option maxRecDepth 20000 in
theorem mwsX40 : ∀ w ∈ wsX40, w ∈ lw_tbl := zm_r _ [76, 78, 80, 82, 84, 86, 88, 90, 92, 94, 96, 98] rfl
set_option maxRecDepth 20000 in
theorem mwsX50 : ∀ w ∈ wsX50, w ∈ lw_tbl := zm_r _ [198, 200, 202, 204, 206, 208, 210, 212, 214, 216, 218] rfl
theorem zm_app {big a b : List Cond} (ha : ∀ w ∈ a, w ∈ big) (hb : ∀ w ∈ b, w ∈ big) : ∀ w ∈ a ++ b, w ∈ big := fun w h => (List.mem_append.mp h).elim (ha w) (hb w)
theorem wsL_law_in : ∀ w ∈ wsL_law, w ∈ lw_tbl := zm_app (zm_app (zm_app (zm_app (zm_app (zm_app (zm_app (zm_app mwsL_law_r1 (zm_app mwsL_law_r2 (zm_app mwsL_law_r3 (zm_app mwsL_law_r4 (zm_app mwsL_law_r5 (zm_app mwsL_law_r6 (zm_app mwsL_law_r7 (zm_app mwsL_law_r8 (zm_app mwsL_law_r9 (zm_app mwsL_law_r10 (zm_app mwsL_law_r11 (zm_app mwsL_law_r12 (zm_app mwsL_law_r13 (mwsL_law_r14)))))))))))))) mwsX50) mwsX30) mwsX40) mwsX00) mwsX20) mwsX10) (fun _ h => absurd h List.not_mem_nil)
theorem inlX0 : ∀ w ∈ wsX00, w ∈ wsL_law := fun _ h => List.mem_append_left _ (List.mem_append_left _ (List.mem_append_left _ (List.mem_append_right _ h)))
theorem inX0 : ∀ w ∈ wsX00, w ∈ lw_tbl := fun w h => wsL_law_in w (inlX0 w h)
theorem inlX1 : ∀ w ∈ wsX10, w ∈ wsL_law := fun _ h => List.mem_append_left _ (List.mem_append_right _ h)
theorem inX1 : ∀ w ∈ wsX10, w ∈ lw_tbl := fun w h => wsL_law_in w (inlX1 w h)
theorem inlX2 : ∀ w ∈ wsX20, w ∈ wsL_law := fun _ h => List.mem_append_left _ (List.mem_append_left _ (List.mem_append_right _ h))
theorem inX2 : ∀ w ∈ wsX20, w ∈ lw_tbl := fun w h => wsL_law_in w (inlX2 w h)
theorem inlX3 : ∀ w ∈ wsX30, w ∈ wsL_law := fun _ h => List.mem_append_left _ (List.mem_append_left _ (List.mem_append_left _ (List.mem_append_left _ (List.mem_append_left _ (List.mem_append_right _ h)))))
theorem inX3 : ∀ w ∈ wsX30, w ∈ lw_tbl := fun w h => wsL_law_in w (inlX3 w h)
theorem inlX4 : ∀ w ∈ wsX40, w ∈ wsL_law := fun _ h => List.mem_append_left _ (List.mem_append_left _ (List.mem_append_left _ (List.mem_append_left _ (List.mem_append_right _ h))))
theorem inX4 : ∀ w ∈ wsX40, w ∈ lw_tbl := fun w h => wsL_law_in w (inlX4 w h)
theorem inlX5 : ∀ w ∈ wsX50, w ∈ wsL_law := fun _ h => List.mem_append_left _ (List.mem_append_left _ (List.mem_append_left _ (List.mem_append_left _ (List.mem_append_left _ (List.mem_append_left _ (List.mem_append_right _ h))))))
theorem inX5 : ∀ w ∈ wsX50, w ∈ lw_tbl := fun w h => wsL_law_in w (inlX5 w h)
theorem inX6 : ∀ w ∈ wsX60, w ∈ lw_tbl := by decide +kernel
theorem inJ6 : ∀ w ∈ wsJ60, w ∈ lw_tbl := by decide +kernel
theorem inJ10 : ∀ w ∈ wsJ100, w ∈ lw_tbl := by decide +kernel
