section XTAB
set_option maxRecDepth 20000 in
theorem wsLt_1 : ∀ w ∈ wsL_law0_r1, w ∈ lw_tbl := fun w h => (goodIn_r wsL_law0_r1 [24, 25, 11, 302, 148, 149, 10, 150, 151, 152, 153, 154, 26, 27, 28, 29, 30, 31, 32, 33, 12, 34, 35, 36] (by decide +kernel) (by decide +kernel) w h).1
set_option maxRecDepth 20000 in
theorem wsLt_2 : ∀ w ∈ wsL_law0_r2, w ∈ lw_tbl := fun w h => (goodIn_r wsL_law0_r2 [37, 121, 38, 113, 40, 13, 66, 67, 14, 114, 77, 78, 15, 115, 95, 96, 16, 116, 117, 118, 65, 119, 120, 122] (by decide +kernel) (by decide +kernel) w h).1
set_option maxRecDepth 20000 in
theorem wsLt_3 : ∀ w ∈ wsL_law0_r3, w ∈ lw_tbl := fun w h => (goodIn_r wsL_law0_r3 [42, 43, 44, 45, 50, 53, 69, 70, 71, 72, 80, 81, 82, 83, 84, 86, 97, 98, 99, 100, 101, 104, 103, 155] (by decide +kernel) (by decide +kernel) w h).1
set_option maxRecDepth 20000 in
theorem wsLt_4 : ∀ w ∈ wsL_law0_r4, w ∈ lw_tbl := fun w h => (goodIn_r wsL_law0_r4 [156, 157, 158, 159, 160, 161, 162, 163, 164, 165, 166, 167, 168, 170, 0, 171, 172, 20, 239, 240, 241, 242, 243, 244] (by decide +kernel) (by decide +kernel) w h).1
set_option maxRecDepth 20000 in
theorem wsLt_5 : ∀ w ∈ wsL_law0_r5, w ∈ lw_tbl := fun w h => (goodIn_r wsL_law0_r5 [245, 246, 21, 262, 264, 2, 265, 266, 267, 268, 269, 270, 271, 272, 285, 273, 274, 275, 276, 278, 279, 280, 282, 3] (by decide +kernel) (by decide +kernel) w h).1
set_option maxRecDepth 20000 in
theorem wsLt_6 : ∀ w ∈ wsL_law0_r6, w ∈ lw_tbl := fun w h => (goodIn_r wsL_law0_r6 [283, 284, 286, 287, 288, 22, 289, 290, 291, 292, 293, 294, 296, 297, 298, 300, 299, 23, 303, 304, 305, 306, 307, 308] (by decide +kernel) (by decide +kernel) w h).1
set_option maxRecDepth 20000 in
theorem wsLt_7 : ∀ w ∈ wsL_law0_r7, w ∈ lw_tbl := fun w h => (goodIn_r wsL_law0_r7 [309, 310, 311, 312, 313, 314, 315, 316, 317, 318, 319, 320, 49, 52, 57, 321, 322, 323, 324, 325, 326, 327, 328, 329] (by decide +kernel) (by decide +kernel) w h).1
set_option maxRecDepth 20000 in
theorem wsLt_8 : ∀ w ∈ wsL_law0_r8, w ∈ lw_tbl := fun w h => (goodIn_r wsL_law0_r8 [330, 331, 332, 333, 334, 335, 336, 337, 338, 339, 340, 341, 342, 343, 344, 345, 346, 347, 348, 349, 350, 351, 352, 353] (by decide +kernel) (by decide +kernel) w h).1
set_option maxRecDepth 20000 in
theorem wsLt_9 : ∀ w ∈ wsL_law0_r9, w ∈ lw_tbl := fun w h => (goodIn_r wsL_law0_r9 [55, 47, 354, 355, 356, 357, 360, 361, 362, 363, 364, 365, 366, 368, 4, 369, 371, 372, 373, 374, 375, 376, 377, 378] (by decide +kernel) (by decide +kernel) w h).1
set_option maxRecDepth 20000 in
theorem wsLt_10 : ∀ w ∈ wsL_law0_r10, w ∈ lw_tbl := fun w h => (goodIn_r wsL_law0_r10 [379, 380, 381, 382, 383, 384, 385, 386, 387, 56, 51, 48, 391, 393, 5, 394, 396, 397, 398, 399, 400, 401, 402, 403] (by decide +kernel) (by decide +kernel) w h).1
set_option maxRecDepth 20000 in
theorem wsLt_11 : ∀ w ∈ wsL_law0_r11, w ∈ lw_tbl := fun w h => (goodIn_r wsL_law0_r11 [404, 405, 407, 408, 409, 410, 87, 85, 411, 412, 413, 414, 54, 46, 415, 417, 6, 418, 422, 424, 7, 425, 427, 429] (by decide +kernel) (by decide +kernel) w h).1
set_option maxRecDepth 20000 in
theorem wsLt_12 : ∀ w ∈ wsL_law0_r12, w ∈ lw_tbl := fun w h => (goodIn_r wsL_law0_r12 [8, 430, 431, 432, 433, 434, 435, 144, 145, 146, 147, 436, 437, 438, 449, 453, 490, 439, 440, 441, 442, 105, 443, 444] (by decide +kernel) (by decide +kernel) w h).1
set_option maxRecDepth 20000 in
theorem wsLt_13 : ∀ w ∈ wsL_law0_r13, w ∈ lw_tbl := fun w h => (goodIn_r wsL_law0_r13 [445, 446, 102, 448, 450, 451, 452, 454, 455, 456, 457, 73, 459, 460, 461, 462, 463, 464, 465, 466, 467, 468, 469, 470] (by decide +kernel) (by decide +kernel) w h).1
set_option maxRecDepth 20000 in
theorem wsLt_14 : ∀ w ∈ wsL_law0_r14, w ∈ lw_tbl := fun w h => (goodIn_r wsL_law0_r14 [472, 473, 474, 475, 476, 477, 478, 479, 480, 481, 482, 483, 484, 485, 486, 487, 488, 489, 491, 492, 493, 494, 495, 496] (by decide +kernel) (by decide +kernel) w h).1
set_option maxRecDepth 20000 in
theorem wsLt_15 : ∀ w ∈ wsL_law0_r15, w ∈ lw_tbl := fun w h => (goodIn_r wsL_law0_r15 [497, 498, 500, 9, 501, 502, 503, 504, 505, 506, 507, 508, 509, 510, 511, 512, 513, 514, 515, 516, 517, 518, 519, 520] (by decide +kernel) (by decide +kernel) w h).1
set_option maxRecDepth 20000 in
theorem wsLt_16 : ∀ w ∈ wsL_law0_r16, w ∈ lw_tbl := fun w h => (goodIn_r wsL_law0_r16 [521, 522, 523, 524, 525, 526, 527, 528] (by decide +kernel) (by decide +kernel) w h).1
set_option maxRecDepth 20000 in
theorem wsLt_X4 : ∀ w ∈ wsX40, w ∈ lw_tbl := by decide +kernel
set_option maxRecDepth 20000 in
theorem wsLt_X0 : ∀ w ∈ wsX00, w ∈ lw_tbl := by decide +kernel
set_option maxRecDepth 20000 in
theorem wsLt_X2 : ∀ w ∈ wsX20, w ∈ lw_tbl := by decide +kernel
set_option maxRecDepth 20000 in
theorem wsLt_X3 : ∀ w ∈ wsX30, w ∈ lw_tbl := by decide +kernel
set_option maxRecDepth 20000 in
theorem wsLt_X1 : ∀ w ∈ wsX10, w ∈ lw_tbl := by decide +kernel
set_option maxRecDepth 20000 in
theorem wsLt_x0 : ∀ w ∈ (vx_atS RX4 121 "java/lang/IndexOutOfBoundsException" ["java/lang/RuntimeException", "java/lang/Exception"]).filter goodWord, w ∈ lw_tbl := by decide +kernel
set_option maxRecDepth 20000 in
theorem wsLt_x1 : ∀ w ∈ (vx_atS RX4 178 "java/lang/IllegalArgumentException" ["java/lang/RuntimeException", "java/lang/Exception"]).filter goodWord, w ∈ lw_tbl := by decide +kernel
theorem wsLt_0 : ∀ w ∈ wsL_law0, w ∈ lw_tbl := List.forall_mem_append.mpr ⟨(List.forall_mem_append.mpr ⟨(List.forall_mem_append.mpr ⟨(List.forall_mem_append.mpr ⟨(List.forall_mem_append.mpr ⟨(List.forall_mem_append.mpr ⟨(List.forall_mem_append.mpr ⟨wsLt_1, (List.forall_mem_append.mpr ⟨wsLt_2, (List.forall_mem_append.mpr ⟨wsLt_3, (List.forall_mem_append.mpr ⟨wsLt_4, (List.forall_mem_append.mpr ⟨wsLt_5, (List.forall_mem_append.mpr ⟨wsLt_6, (List.forall_mem_append.mpr ⟨wsLt_7, (List.forall_mem_append.mpr ⟨wsLt_8, (List.forall_mem_append.mpr ⟨wsLt_9, (List.forall_mem_append.mpr ⟨wsLt_10, (List.forall_mem_append.mpr ⟨wsLt_11, (List.forall_mem_append.mpr ⟨wsLt_12, (List.forall_mem_append.mpr ⟨wsLt_13, (List.forall_mem_append.mpr ⟨wsLt_14, (List.forall_mem_append.mpr ⟨wsLt_15, wsLt_16⟩)⟩)⟩)⟩)⟩)⟩)⟩)⟩)⟩)⟩)⟩)⟩)⟩)⟩)⟩), wsLt_X4⟩), wsLt_X0⟩), wsLt_X2⟩), wsLt_X3⟩), wsLt_X1⟩), (fun _ h => absurd h List.not_mem_nil)⟩
theorem wsLt : ∀ w ∈ wsL_law, w ∈ lw_tbl := List.forall_mem_append.mpr ⟨(List.forall_mem_append.mpr ⟨wsLt_0, wsLt_x0⟩), wsLt_x1⟩
end XTAB
