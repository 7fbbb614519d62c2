theorem zMemR {big : List Cond} (ws : List Cond) (ps : List Nat) (hp : ws = ps.filterMap (fun i => big[i]?)) : ∀ w ∈ ws, w ∈ big := by
  intro w hw
  rw [hp] at hw
  obtain ⟨i, -, hi⟩ := List.mem_filterMap.mp hw
  exact List.mem_of_getElem? hi
set_option maxRecDepth 20000 in
theorem wsL_law_i1 : ∀ w ∈ wsL_law_r1, w ∈ lw_tbl := zMemR wsL_law_r1 [47, 48, 35, 526, 527, 43, 801, 49, 50, 51, 52, 53, 54, 55, 56, 36, 207, 119, 120, 39, 208, 136, 137, 40] (by decide +kernel)
set_option maxRecDepth 20000 in
theorem wsL_law_i2 : ∀ w ∈ wsL_law_r2, w ∈ lw_tbl := zMemR wsL_law_r2 [209, 210, 152, 153, 41, 211, 205, 62, 37, 212, 58, 59, 60, 77, 91, 61, 92, 78, 79, 38, 94, 64, 65, 66] (by decide +kernel)
set_option maxRecDepth 20000 in
theorem wsL_law_i3 : ∀ w ∈ wsL_law_r3, w ∈ lw_tbl := zMemR wsL_law_r3 [81, 82, 83, 84, 121, 122, 123, 124, 125, 128, 139, 140, 141, 142, 144, 155, 156, 157, 158, 159, 42, 174, 161, 162] (by decide +kernel)
set_option maxRecDepth 20000 in
theorem wsL_law_i4 : ∀ w ∈ wsL_law_r4, w ∈ lw_tbl := zMemR wsL_law_r4 [163, 173, 164, 528, 529, 530, 531, 532, 533, 534, 536, 537, 540, 226, 227, 228, 229, 230, 231, 232, 233, 238, 239, 240] (by decide +kernel)
set_option maxRecDepth 20000 in
theorem wsL_law_i5 : ∀ w ∈ wsL_law_r5, w ∈ lw_tbl := zMemR wsL_law_r5 [241, 129, 258, 259, 45, 260, 242, 243, 244, 245, 246, 248, 247, 44, 96, 98, 100, 102, 249, 250, 251, 252, 67, 70] (by decide +kernel)
set_option maxRecDepth 20000 in
theorem wsL_law_i6 : ∀ w ∈ wsL_law_r6, w ∈ lw_tbl := zMemR wsL_law_r6 [253, 254, 255, 256, 257, 85, 261, 262, 263, 264, 265, 266, 267, 268, 575, 576, 577, 578, 579, 581, 8, 582, 583, 585] (by decide +kernel)
set_option maxRecDepth 20000 in
theorem wsL_law_i7 : ∀ w ∈ wsL_law_r7, w ∈ lw_tbl := zMemR wsL_law_r7 [9, 586, 587, 588, 589, 590, 594, 595, 596, 591, 592, 593, 597, 599, 10, 600, 535, 269, 270, 271, 272, 273, 274, 275] (by decide +kernel)
set_option maxRecDepth 20000 in
theorem wsL_law_i8 : ∀ w ∈ wsL_law_r8, w ∈ lw_tbl := zMemR wsL_law_r8 [276, 277, 278, 279, 280, 601, 602, 603, 604, 605, 607, 11, 608, 609, 281, 282, 283, 284, 285, 286, 287, 288, 290, 291] (by decide +kernel)
set_option maxRecDepth 20000 in
theorem wsL_law_i9 : ∀ w ∈ wsL_law_r9, w ∈ lw_tbl := zMemR wsL_law_r9 [293, 294, 295, 296, 297, 298, 299, 301, 0, 302, 69, 303, 304, 305, 306, 307, 308, 309, 310, 311, 312, 313, 314, 315] (by decide +kernel)
set_option maxRecDepth 20000 in
theorem wsL_law_i10 : ∀ w ∈ wsL_law_r10, w ∈ lw_tbl := zMemR wsL_law_r10 [316, 317, 318, 319, 320, 321, 322, 323, 324, 325, 326, 327, 329, 1, 330, 331, 333, 2, 334, 335, 336, 337, 338, 610] (by decide +kernel)
set_option maxRecDepth 20000 in
theorem wsL_law_i11 : ∀ w ∈ wsL_law_r11, w ∈ lw_tbl := zMemR wsL_law_r11 [611, 612, 613, 614, 616, 12, 617, 618, 619, 620, 621, 622, 623, 624, 625, 626, 627, 628, 630, 13, 631, 538, 539, 632] (by decide +kernel)
set_option maxRecDepth 20000 in
theorem wsL_law_i12 : ∀ w ∈ wsL_law_r12, w ∈ lw_tbl := zMemR wsL_law_r12 [634, 14, 635, 636, 638, 15, 639, 640, 642, 16, 643, 644, 646, 17, 647, 648, 650, 18, 651, 652, 654, 19, 655, 339] (by decide +kernel)
set_option maxRecDepth 20000 in
theorem wsL_law_i13 : ∀ w ∈ wsL_law_r13, w ∈ lw_tbl := zMemR wsL_law_r13 [340, 341, 342, 68, 344, 343, 656, 657, 658, 659, 660, 662, 20, 663, 664, 345, 346, 347, 348, 354, 349, 350, 351, 352] (by decide +kernel)
set_option maxRecDepth 20000 in
theorem wsL_law_i14 : ∀ w ∈ wsL_law_r14, w ∈ lw_tbl := zMemR wsL_law_r14 [353, 356, 357, 358, 359, 665, 666, 667, 668, 669, 674, 670, 672, 21, 673, 360, 361, 362, 363, 71, 364, 675, 676, 677] (by decide +kernel)
set_option maxRecDepth 20000 in
theorem wsL_law_i15 : ∀ w ∈ wsL_law_r15, w ∈ lw_tbl := zMemR wsL_law_r15 [678, 541, 365, 366, 367, 368, 369, 370, 371, 372, 373, 374, 375, 376, 377, 378, 379, 380, 381, 382, 679, 680, 681, 682] (by decide +kernel)
set_option maxRecDepth 20000 in
theorem wsL_law_i16 : ∀ w ∈ wsL_law_r16, w ∈ lw_tbl := zMemR wsL_law_r16 [683, 684, 46, 685, 689, 691, 690, 46, 692, 686, 687, 688, 383, 384, 385, 386, 394, 387, 388, 389, 390, 391, 392, 393] (by decide +kernel)
set_option maxRecDepth 20000 in
theorem wsL_law_i17 : ∀ w ∈ wsL_law_r17, w ∈ lw_tbl := zMemR wsL_law_r17 [395, 396, 397, 398, 399, 400, 401, 402, 403, 404, 405, 406, 693, 694, 695, 696, 697, 698, 700, 22, 701, 702, 704, 23] (by decide +kernel)
set_option maxRecDepth 20000 in
theorem wsL_law_i18 : ∀ w ∈ wsL_law_r18, w ∈ lw_tbl := zMemR wsL_law_r18 [705, 706, 708, 24, 709, 710, 712, 25, 713, 714, 716, 26, 717, 407, 408, 409, 410, 411, 412, 413, 718, 719, 720, 721] (by decide +kernel)
set_option maxRecDepth 20000 in
theorem wsL_law_i19 : ∀ w ∈ wsL_law_r19, w ∈ lw_tbl := zMemR wsL_law_r19 [414, 415, 416, 417, 419, 420, 421, 418, 722, 723, 724, 725, 726, 727, 728, 422, 423, 424, 425, 426, 427, 428, 729, 730] (by decide +kernel)
set_option maxRecDepth 20000 in
theorem wsL_law_i20 : ∀ w ∈ wsL_law_r20, w ∈ lw_tbl := zMemR wsL_law_r20 [731, 732, 429, 430, 431, 432, 733, 734, 735, 736, 433, 434, 435, 436, 737, 738, 739, 740, 437, 438, 439, 440, 441, 442] (by decide +kernel)
set_option maxRecDepth 20000 in
theorem wsL_law_i21 : ∀ w ∈ wsL_law_r21, w ∈ lw_tbl := zMemR wsL_law_r21 [443, 444, 445, 446, 447, 448, 449, 450, 165, 741, 742, 743, 744, 745, 746, 747, 451, 452, 453, 454, 748, 749, 750, 751] (by decide +kernel)
set_option maxRecDepth 20000 in
theorem wsL_law_i22 : ∀ w ∈ wsL_law_r22, w ∈ lw_tbl := zMemR wsL_law_r22 [455, 456, 457, 458, 459, 460, 461, 462, 176, 463, 464, 465, 466, 467, 468, 469, 470, 178, 471, 472, 473, 474, 475, 477] (by decide +kernel)
set_option maxRecDepth 20000 in
theorem wsL_law_i23 : ∀ w ∈ wsL_law_r23, w ∈ lw_tbl := zMemR wsL_law_r23 [3, 478, 177, 182, 184, 186, 479, 481, 4, 482, 180, 483, 484, 485, 486, 487, 489, 5, 490, 491, 492, 493, 494, 496] (by decide +kernel)
set_option maxRecDepth 20000 in
theorem wsL_law_i24 : ∀ w ∈ wsL_law_r24, w ∈ lw_tbl := zMemR wsL_law_r24 [6, 497, 752, 753, 754, 755, 542, 544, 756, 758, 27, 759, 543, 760, 762, 28, 763, 764, 766, 29, 767, 768, 770, 30] (by decide +kernel)
set_option maxRecDepth 20000 in
theorem wsL_law_i25 : ∀ w ∈ wsL_law_r25, w ∈ lw_tbl := zMemR wsL_law_r25 [771, 545, 772, 774, 31, 775, 776, 778, 32, 779, 780, 782, 33, 783, 498, 499, 500, 501, 502, 503, 504, 506, 7, 507] (by decide +kernel)
set_option maxRecDepth 20000 in
theorem wsL_law_i26 : ∀ w ∈ wsL_law_r26, w ∈ lw_tbl := zMemR wsL_law_r26 [508, 784, 785, 786, 787, 788, 509, 510, 511, 512, 513, 514, 515, 516, 789, 790, 791, 792, 517, 518, 519, 520, 521, 793] (by decide +kernel)
set_option maxRecDepth 20000 in
theorem wsL_law_i27 : ∀ w ∈ wsL_law_r27, w ∈ lw_tbl := zMemR wsL_law_r27 [794, 795, 796, 522, 523, 524, 525, 797, 798, 799, 800] (by decide +kernel)
set_option maxRecDepth 20000 in
theorem wsL_law_u7 : ∀ w ∈ wsX70, w ∈ lw_tbl := zMemR wsX70 [213, 215, 217, 219, 221, 223] (by decide +kernel)
set_option maxRecDepth 20000 in
theorem wsL_law_u8 : ∀ w ∈ wsX80, w ∈ lw_tbl := zMemR wsX80 [546, 548, 550, 552, 554, 556, 558, 560, 562, 564, 566, 568, 570, 572] (by decide +kernel)
set_option maxRecDepth 20000 in
theorem wsL_law_u0 : ∀ w ∈ wsX00, w ∈ lw_tbl := zMemR wsX00 [104, 106, 108, 110, 112, 114, 116] (by decide +kernel)
set_option maxRecDepth 20000 in
theorem wsL_law_u2 : ∀ w ∈ wsX20, w ∈ lw_tbl := zMemR wsX20 [131, 133] (by decide +kernel)
set_option maxRecDepth 20000 in
theorem wsL_law_u6 : ∀ w ∈ wsX60, w ∈ lw_tbl := zMemR wsX60 [147, 149] (by decide +kernel)
set_option maxRecDepth 20000 in
theorem wsL_law_u5 : ∀ w ∈ wsX50, w ∈ lw_tbl := zMemR wsX50 [188, 190, 192, 194, 196, 198, 200, 202] (by decide +kernel)
set_option maxRecDepth 20000 in
theorem wsL_law_u1 : ∀ w ∈ wsX10, w ∈ lw_tbl := zMemR wsX10 [72, 74] (by decide +kernel)
set_option maxRecDepth 20000 in
theorem wsL_law_u3 : ∀ w ∈ wsX30, w ∈ lw_tbl := zMemR wsX30 [86, 88] (by decide +kernel)
set_option maxRecDepth 20000 in
theorem wsL_law_u4 : ∀ w ∈ wsX40, w ∈ lw_tbl := zMemR wsX40 [168, 170] (by decide +kernel)
theorem wsL_law_in : ∀ w ∈ wsL_law, w ∈ lw_tbl := List.forall_mem_append.mpr ⟨List.forall_mem_append.mpr ⟨List.forall_mem_append.mpr ⟨List.forall_mem_append.mpr ⟨List.forall_mem_append.mpr ⟨List.forall_mem_append.mpr ⟨List.forall_mem_append.mpr ⟨List.forall_mem_append.mpr ⟨List.forall_mem_append.mpr ⟨List.forall_mem_append.mpr ⟨List.forall_mem_append.mpr ⟨wsL_law_i1, List.forall_mem_append.mpr ⟨wsL_law_i2, List.forall_mem_append.mpr ⟨wsL_law_i3, List.forall_mem_append.mpr ⟨wsL_law_i4, List.forall_mem_append.mpr ⟨wsL_law_i5, List.forall_mem_append.mpr ⟨wsL_law_i6, List.forall_mem_append.mpr ⟨wsL_law_i7, List.forall_mem_append.mpr ⟨wsL_law_i8, List.forall_mem_append.mpr ⟨wsL_law_i9, List.forall_mem_append.mpr ⟨wsL_law_i10, List.forall_mem_append.mpr ⟨wsL_law_i11, List.forall_mem_append.mpr ⟨wsL_law_i12, List.forall_mem_append.mpr ⟨wsL_law_i13, List.forall_mem_append.mpr ⟨wsL_law_i14, List.forall_mem_append.mpr ⟨wsL_law_i15, List.forall_mem_append.mpr ⟨wsL_law_i16, List.forall_mem_append.mpr ⟨wsL_law_i17, List.forall_mem_append.mpr ⟨wsL_law_i18, List.forall_mem_append.mpr ⟨wsL_law_i19, List.forall_mem_append.mpr ⟨wsL_law_i20, List.forall_mem_append.mpr ⟨wsL_law_i21, List.forall_mem_append.mpr ⟨wsL_law_i22, List.forall_mem_append.mpr ⟨wsL_law_i23, List.forall_mem_append.mpr ⟨wsL_law_i24, List.forall_mem_append.mpr ⟨wsL_law_i25, List.forall_mem_append.mpr ⟨wsL_law_i26, wsL_law_i27⟩⟩⟩⟩⟩⟩⟩⟩⟩⟩⟩⟩⟩⟩⟩⟩⟩⟩⟩⟩⟩⟩⟩⟩⟩⟩, wsL_law_u7⟩, wsL_law_u8⟩, wsL_law_u0⟩, wsL_law_u2⟩, wsL_law_u6⟩, wsL_law_u5⟩, wsL_law_u1⟩, wsL_law_u3⟩, wsL_law_u4⟩, fun _ h => absurd h List.not_mem_nil⟩
