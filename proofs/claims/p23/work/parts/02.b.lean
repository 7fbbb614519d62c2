theorem zMemR {big : List Cond} (ws : List Cond) (ps : List Nat) (hp : ws = ps.filterMap (fun i => big[i]?)) : ∀ w ∈ ws, w ∈ big := by
  intro w hw
  rw [hp] at hw
  obtain ⟨i, -, hi⟩ := List.mem_filterMap.mp hw
  exact List.mem_of_getElem? hi
set_option maxRecDepth 20000 in
theorem wsL_law_i1 : ∀ w ∈ wsL_law_r1, w ∈ lw_tbl := zMemR wsL_law_r1 [14, 15, 4, 16, 17, 18, 19, 20, 21, 22, 23, 5, 158, 86, 87, 8, 159, 103, 104, 9, 160, 161, 117, 118] (by decide +kernel)
set_option maxRecDepth 20000 in
theorem wsL_law_i2 : ∀ w ∈ wsL_law_r2, w ∈ lw_tbl := zMemR wsL_law_r2 [10, 162, 156, 29, 6, 163, 25, 26, 27, 44, 58, 28, 59, 45, 46, 7, 61, 31, 32, 33, 48, 49, 50, 51] (by decide +kernel)
set_option maxRecDepth 20000 in
theorem wsL_law_i3 : ∀ w ∈ wsL_law_r3, w ∈ lw_tbl := zMemR wsL_law_r3 [88, 89, 90, 91, 92, 95, 106, 107, 108, 109, 111, 120, 121, 122, 123, 124, 11, 137, 126, 127, 128, 136, 129, 177] (by decide +kernel)
set_option maxRecDepth 20000 in
theorem wsL_law_i4 : ∀ w ∈ wsL_law_r4, w ∈ lw_tbl := zMemR wsL_law_r4 [178, 3, 179, 180, 181, 182, 183, 319, 320, 184, 185, 186, 187, 35, 188, 38, 189, 190, 191, 192, 52, 193, 194, 12] rfl
set_option maxRecDepth 20000 in
theorem wsL_law_i5 : ∀ w ∈ wsL_law_r5, w ∈ lw_tbl := zMemR wsL_law_r5 [195, 196, 197, 198, 199, 200, 201, 202, 203, 204, 205, 206, 207, 208, 209, 210, 211, 65, 213, 214, 216, 217, 218, 219] rfl
set_option maxRecDepth 20000 in
theorem wsL_law_i6 : ∀ w ∈ wsL_law_r6, w ∈ lw_tbl := zMemR wsL_law_r6 [220, 221, 96, 238, 222, 223, 224, 225, 226, 228, 227, 13, 63, 67, 69, 229, 230, 231, 232, 34, 37, 233, 234, 235] (by decide +kernel)
set_option maxRecDepth 20000 in
theorem wsL_law_i7 : ∀ w ∈ wsL_law_r7, w ∈ lw_tbl := zMemR wsL_law_r7 [236, 237, 239, 240, 241, 242, 243, 245, 0, 246, 36, 247, 248, 249, 250, 251, 252, 253, 254, 255, 256, 257, 258, 259] (by decide +kernel)
set_option maxRecDepth 20000 in
theorem wsL_law_i8 : ∀ w ∈ wsL_law_r8, w ∈ lw_tbl := zMemR wsL_law_r8 [260, 261, 262, 263, 264, 265, 266, 267, 268, 269, 270, 271, 272, 274, 1, 275, 276, 278, 2, 279, 280, 281, 282, 283] (by decide +kernel)
set_option maxRecDepth 20000 in
theorem wsL_law_i9 : ∀ w ∈ wsL_law_r9, w ∈ lw_tbl := zMemR wsL_law_r9 [284, 285, 286, 287, 291, 288, 289, 290, 292, 293, 294, 295, 296, 297, 298, 299, 300, 301, 302, 303, 304, 305, 306, 307] (by decide +kernel)
set_option maxRecDepth 20000 in
theorem wsL_law_i10 : ∀ w ∈ wsL_law_r10, w ∈ lw_tbl := zMemR wsL_law_r10 [308, 310, 311, 312, 313, 314, 315, 316, 317, 318, 321, 322, 323, 324, 325, 326, 327, 328, 333, 334, 335, 336, 404, 405] (by decide +kernel)
set_option maxRecDepth 20000 in
theorem wsL_law_i11 : ∀ w ∈ wsL_law_r11, w ∈ lw_tbl := zMemR wsL_law_r11 [406, 381, 382, 383, 384, 385, 386, 387, 388, 389, 390, 391, 349, 348, 392, 393, 394, 395, 396, 397, 398, 399, 400, 401] rfl
set_option maxRecDepth 20000 in
theorem wsL_law_i12 : ∀ w ∈ wsL_law_r12, w ∈ lw_tbl := zMemR wsL_law_r12 [402, 403, 407, 408, 409, 363, 364, 365, 366, 368, 369, 370, 367, 371, 372, 373, 374, 375, 376, 362, 377, 378, 379, 380] rfl
set_option maxRecDepth 20000 in
theorem wsL_law_i13 : ∀ w ∈ wsL_law_r13, w ∈ lw_tbl := zMemR wsL_law_r13 [337, 338, 339, 340, 341, 342, 343, 344, 345, 346, 347, 350, 351, 352, 353, 354, 355, 356, 357, 358, 359, 360, 361] rfl
set_option maxRecDepth 20000 in
theorem wsL_law_u7 : ∀ w ∈ wsX70, w ∈ lw_tbl := zMemR wsX70 [164, 166, 168, 170, 172, 174] (by decide +kernel)
set_option maxRecDepth 20000 in
theorem wsL_law_u0 : ∀ w ∈ wsX00, w ∈ lw_tbl := zMemR wsX00 [71, 73, 75, 77, 79, 81, 83] (by decide +kernel)
set_option maxRecDepth 20000 in
theorem wsL_law_u2 : ∀ w ∈ wsX20, w ∈ lw_tbl := zMemR wsX20 [98, 100] (by decide +kernel)
set_option maxRecDepth 20000 in
theorem wsL_law_u6 : ∀ w ∈ wsX60, w ∈ lw_tbl := zMemR wsX60 [112, 114] (by decide +kernel)
set_option maxRecDepth 20000 in
theorem wsL_law_u5 : ∀ w ∈ wsX50, w ∈ lw_tbl := zMemR wsX50 [139, 141, 143, 145, 147, 149, 151, 153] (by decide +kernel)
set_option maxRecDepth 20000 in
theorem wsL_law_u1 : ∀ w ∈ wsX10, w ∈ lw_tbl := zMemR wsX10 [39, 41] (by decide +kernel)
set_option maxRecDepth 20000 in
theorem wsL_law_u3 : ∀ w ∈ wsX30, w ∈ lw_tbl := zMemR wsX30 [53, 55] (by decide +kernel)
set_option maxRecDepth 20000 in
theorem wsL_law_u4 : ∀ w ∈ wsX40, w ∈ lw_tbl := zMemR wsX40 [131, 133] (by decide +kernel)
theorem wsL_law_in : ∀ w ∈ wsL_law, w ∈ lw_tbl := List.forall_mem_append.mpr ⟨List.forall_mem_append.mpr ⟨List.forall_mem_append.mpr ⟨List.forall_mem_append.mpr ⟨List.forall_mem_append.mpr ⟨List.forall_mem_append.mpr ⟨List.forall_mem_append.mpr ⟨List.forall_mem_append.mpr ⟨List.forall_mem_append.mpr ⟨List.forall_mem_append.mpr ⟨wsL_law_i1, List.forall_mem_append.mpr ⟨wsL_law_i2, List.forall_mem_append.mpr ⟨wsL_law_i3, List.forall_mem_append.mpr ⟨wsL_law_i4, List.forall_mem_append.mpr ⟨wsL_law_i5, List.forall_mem_append.mpr ⟨wsL_law_i6, List.forall_mem_append.mpr ⟨wsL_law_i7, List.forall_mem_append.mpr ⟨wsL_law_i8, List.forall_mem_append.mpr ⟨wsL_law_i9, List.forall_mem_append.mpr ⟨wsL_law_i10, List.forall_mem_append.mpr ⟨wsL_law_i11, List.forall_mem_append.mpr ⟨wsL_law_i12, wsL_law_i13⟩⟩⟩⟩⟩⟩⟩⟩⟩⟩⟩⟩, wsL_law_u7⟩, wsL_law_u0⟩, wsL_law_u2⟩, wsL_law_u6⟩, wsL_law_u5⟩, wsL_law_u1⟩, wsL_law_u3⟩, wsL_law_u4⟩, fun _ h => absurd h List.not_mem_nil⟩
