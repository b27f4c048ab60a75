section XTAB
set_option maxRecDepth 20000 in
theorem wsLt_1 : ∀ w ∈ wsL_law0_r1, w ∈ lw_tbl := fun w h => (goodIn_r wsL_law0_r1 [40, 41, 26, 572, 573, 32, 806, 168, 169, 25, 170, 42, 43, 44, 45, 46, 47, 48, 49, 27, 50, 51, 52, 53] (by decide +kernel) (by decide +kernel) w h).1
set_option maxRecDepth 20000 in
theorem wsLt_2 : ∀ w ∈ wsL_law0_r2, w ∈ lw_tbl := fun w h => (goodIn_r wsL_law0_r2 [137, 54, 129, 56, 28, 82, 83, 29, 130, 93, 94, 30, 131, 111, 112, 31, 132, 133, 134, 81, 135, 136, 138, 58] (by decide +kernel) (by decide +kernel) w h).1
set_option maxRecDepth 20000 in
theorem wsLt_3 : ∀ w ∈ wsL_law0_r3, w ∈ lw_tbl := fun w h => (goodIn_r wsL_law0_r3 [59, 60, 61, 66, 69, 85, 86, 87, 88, 96, 97, 98, 99, 100, 102, 113, 114, 115, 116, 117, 120, 119, 574, 575] (by decide +kernel) (by decide +kernel) w h).1
set_option maxRecDepth 20000 in
theorem wsLt_4 : ∀ w ∈ wsL_law0_r4, w ∈ lw_tbl := fun w h => (goodIn_r wsL_law0_r4 [576, 577, 578, 585, 579, 586, 625, 587, 589, 590, 591, 592, 580, 581, 593, 583, 171, 172, 173, 174, 175, 176, 177, 178] (by decide +kernel) (by decide +kernel) w h).1
set_option maxRecDepth 20000 in
theorem wsLt_5 : ∀ w ∈ wsL_law0_r5, w ∈ lw_tbl := fun w h => (goodIn_r wsL_law0_r5 [179, 180, 182, 0, 183, 184, 36, 251, 252, 253, 254, 255, 256, 257, 258, 37, 274, 276, 2, 277, 278, 279, 280, 281] (by decide +kernel) (by decide +kernel) w h).1
set_option maxRecDepth 20000 in
theorem wsLt_6 : ∀ w ∈ wsL_law0_r6, w ∈ lw_tbl := fun w h => (goodIn_r wsL_law0_r6 [282, 283, 284, 297, 285, 286, 287, 288, 290, 291, 292, 294, 3, 295, 296, 298, 299, 300, 38, 301, 302, 303, 304, 305] (by decide +kernel) (by decide +kernel) w h).1
set_option maxRecDepth 20000 in
theorem wsLt_7 : ∀ w ∈ wsL_law0_r7, w ∈ lw_tbl := fun w h => (goodIn_r wsL_law0_r7 [306, 308, 309, 310, 312, 311, 39, 630, 631, 632, 633, 584, 634, 635, 636, 637, 638, 639, 640, 642, 10, 643, 582, 644] (by decide +kernel) (by decide +kernel) w h).1
set_option maxRecDepth 20000 in
theorem wsLt_8 : ∀ w ∈ wsL_law0_r8, w ∈ lw_tbl := fun w h => (goodIn_r wsL_law0_r8 [646, 11, 647, 588, 648, 650, 12, 651, 626, 627, 628, 629, 314, 315, 316, 317, 318, 319, 320, 652, 653, 654, 655, 321] (by decide +kernel) (by decide +kernel) w h).1
set_option maxRecDepth 20000 in
theorem wsLt_9 : ∀ w ∈ wsL_law0_r9, w ∈ lw_tbl := fun w h => (goodIn_r wsL_law0_r9 [322, 323, 324, 325, 326, 327, 328, 329, 330, 331, 656, 657, 658, 659, 660, 662, 13, 663, 332, 333, 334, 335, 336, 337] (by decide +kernel) (by decide +kernel) w h).1
set_option maxRecDepth 20000 in
theorem wsLt_10 : ∀ w ∈ wsL_law0_r10, w ∈ lw_tbl := fun w h => (goodIn_r wsL_law0_r10 [338, 65, 68, 73, 664, 665, 666, 667, 339, 340, 341, 342, 343, 344, 345, 668, 669, 670, 671, 160, 161, 162, 163, 672] (by decide +kernel) (by decide +kernel) w h).1
set_option maxRecDepth 20000 in
theorem wsLt_11 : ∀ w ∈ wsL_law0_r11, w ∈ lw_tbl := fun w h => (goodIn_r wsL_law0_r11 [673, 674, 675, 346, 347, 348, 349, 350, 351, 352, 676, 677, 678, 679, 353, 354, 355, 356, 357, 358, 359, 360, 680, 681] (by decide +kernel) (by decide +kernel) w h).1
set_option maxRecDepth 20000 in
theorem wsLt_12 : ∀ w ∈ wsL_law0_r12, w ∈ lw_tbl := fun w h => (goodIn_r wsL_law0_r12 [682, 683, 361, 362, 363, 364, 365, 366, 367, 368, 369, 370, 371, 372, 684, 685, 686, 687, 373, 374, 375, 376, 377, 378] (by decide +kernel) (by decide +kernel) w h).1
set_option maxRecDepth 20000 in
theorem wsLt_13 : ∀ w ∈ wsL_law0_r13, w ∈ lw_tbl := fun w h => (goodIn_r wsL_law0_r13 [379, 380, 381, 382, 383, 384, 385, 386, 688, 689, 690, 691, 692, 693, 694, 695, 696, 697, 698, 164, 165, 166, 167, 699] (by decide +kernel) (by decide +kernel) w h).1
set_option maxRecDepth 20000 in
theorem wsLt_14 : ∀ w ∈ wsL_law0_r14, w ∈ lw_tbl := fun w h => (goodIn_r wsL_law0_r14 [700, 701, 702, 387, 388, 389, 390, 391, 392, 393, 121, 394, 395, 396, 397, 71, 63, 398, 399, 400, 401, 404, 406, 4] (by decide +kernel) (by decide +kernel) w h).1
set_option maxRecDepth 20000 in
theorem wsLt_15 : ∀ w ∈ wsL_law0_r15, w ∈ lw_tbl := fun w h => (goodIn_r wsL_law0_r15 [407, 703, 704, 705, 706, 707, 709, 14, 710, 711, 713, 15, 714, 409, 410, 411, 412, 413, 414, 415, 118, 417, 715, 716] (by decide +kernel) (by decide +kernel) w h).1
set_option maxRecDepth 20000 in
theorem wsLt_16 : ∀ w ∈ wsL_law0_r16, w ∈ lw_tbl := fun w h => (goodIn_r wsL_law0_r16 [717, 718, 418, 419, 420, 421, 422, 423, 424, 425, 426, 427, 428, 429, 719, 720, 721, 722, 723, 725, 16, 726, 430, 431] (by decide +kernel) (by decide +kernel) w h).1
set_option maxRecDepth 20000 in
theorem wsLt_17 : ∀ w ∈ wsL_law0_r17, w ∈ lw_tbl := fun w h => (goodIn_r wsL_law0_r17 [432, 433, 434, 435, 436, 437, 439, 5, 440, 441, 442, 443, 444, 445, 727, 728, 729, 730, 731, 733, 17, 734, 735, 737] (by decide +kernel) (by decide +kernel) w h).1
set_option maxRecDepth 20000 in
theorem wsLt_18 : ∀ w ∈ wsL_law0_r18, w ∈ lw_tbl := fun w h => (goodIn_r wsL_law0_r18 [18, 738, 595, 594, 739, 740, 742, 19, 743, 744, 746, 20, 747, 446, 447, 448, 449, 450, 451, 452, 453, 454, 455, 456] (by decide +kernel) (by decide +kernel) w h).1
set_option maxRecDepth 20000 in
theorem wsLt_19 : ∀ w ∈ wsL_law0_r19, w ∈ lw_tbl := fun w h => (goodIn_r wsL_law0_r19 [457, 458, 459, 460, 461, 748, 749, 750, 751, 462, 463, 464, 465, 466, 467, 468, 752, 753, 754, 755, 469, 470, 471, 472] (by decide +kernel) (by decide +kernel) w h).1
set_option maxRecDepth 20000 in
theorem wsLt_20 : ∀ w ∈ wsL_law0_r20, w ∈ lw_tbl := fun w h => (goodIn_r wsL_law0_r20 [473, 474, 475, 89, 477, 478, 479, 480, 481, 482, 483, 484, 72, 67, 64, 488, 490, 6, 491, 493, 494, 756, 757, 758] (by decide +kernel) (by decide +kernel) w h).1
set_option maxRecDepth 20000 in
theorem wsLt_21 : ∀ w ∈ wsL_law0_r21, w ∈ lw_tbl := fun w h => (goodIn_r wsL_law0_r21 [759, 760, 762, 21, 763, 764, 765, 766, 495, 496, 497, 498, 499, 500, 501, 502, 503, 504, 505, 506, 507, 508, 509, 767] (by decide +kernel) (by decide +kernel) w h).1
set_option maxRecDepth 20000 in
theorem wsLt_22 : ∀ w ∈ wsL_law0_r22, w ∈ lw_tbl := fun w h => (goodIn_r wsL_law0_r22 [768, 769, 770, 771, 773, 22, 774, 775, 776, 777, 511, 512, 513, 514, 515, 516, 517, 518, 778, 779, 780, 781, 519, 520] (by decide +kernel) (by decide +kernel) w h).1
set_option maxRecDepth 20000 in
theorem wsLt_23 : ∀ w ∈ wsL_law0_r23, w ∈ lw_tbl := fun w h => (goodIn_r wsL_law0_r23 [521, 522, 523, 524, 525, 101, 526, 527, 528, 529, 70, 62, 530, 532, 7, 533, 537, 539, 8, 540, 542, 544, 9, 545] (by decide +kernel) (by decide +kernel) w h).1
set_option maxRecDepth 20000 in
theorem wsLt_24 : ∀ w ∈ wsL_law0_r24, w ∈ lw_tbl := fun w h => (goodIn_r wsL_law0_r24 [782, 783, 784, 785, 786, 788, 23, 789, 790, 792, 24, 793, 546, 547, 548, 549, 550, 551, 552, 103, 794, 795, 796, 797] (by decide +kernel) (by decide +kernel) w h).1
set_option maxRecDepth 20000 in
theorem wsLt_25 : ∀ w ∈ wsL_law0_r25, w ∈ lw_tbl := fun w h => (goodIn_r wsL_law0_r25 [553, 554, 555, 556, 557, 558, 559, 561, 562, 563, 564, 798, 799, 800, 801, 565, 566, 567, 568, 569, 570, 571, 802, 803] (by decide +kernel) (by decide +kernel) w h).1
set_option maxRecDepth 20000 in
theorem wsLt_26 : ∀ w ∈ wsL_law0_r26, w ∈ lw_tbl := fun w h => (goodIn_r wsL_law0_r26 [804, 805] (by decide +kernel) (by decide +kernel) w h).1
set_option maxRecDepth 20000 in
theorem wsLt_X4 : ∀ w ∈ wsX40, w ∈ lw_tbl := by decide +kernel
set_option maxRecDepth 20000 in
theorem wsLt_X5 : ∀ w ∈ wsX50, w ∈ lw_tbl := by decide +kernel
set_option maxRecDepth 20000 in
theorem wsLt_X0 : ∀ w ∈ wsX00, w ∈ lw_tbl := by decide +kernel
set_option maxRecDepth 20000 in
theorem wsLt_X2 : ∀ w ∈ wsX20, w ∈ lw_tbl := by decide +kernel
set_option maxRecDepth 20000 in
theorem wsLt_X3 : ∀ w ∈ wsX30, w ∈ lw_tbl := by decide +kernel
set_option maxRecDepth 20000 in
theorem wsLt_X1 : ∀ w ∈ wsX10, w ∈ lw_tbl := by decide +kernel
set_option maxRecDepth 20000 in
theorem wsLt_x0 : ∀ w ∈ (vx_atS RX4 121 "java/lang/IndexOutOfBoundsException" ["java/lang/RuntimeException", "java/lang/Exception"]).filter goodWord, w ∈ lw_tbl := by decide +kernel
set_option maxRecDepth 20000 in
theorem wsLt_x1 : ∀ w ∈ (vx_atS RX4 178 "java/lang/IllegalArgumentException" ["java/lang/RuntimeException", "java/lang/Exception"]).filter goodWord, w ∈ lw_tbl := by decide +kernel
theorem wsLt_0 : ∀ w ∈ wsL_law0, w ∈ lw_tbl := List.forall_mem_append.mpr ⟨(List.forall_mem_append.mpr ⟨(List.forall_mem_append.mpr ⟨(List.forall_mem_append.mpr ⟨(List.forall_mem_append.mpr ⟨(List.forall_mem_append.mpr ⟨(List.forall_mem_append.mpr ⟨(List.forall_mem_append.mpr ⟨wsLt_1, (List.forall_mem_append.mpr ⟨wsLt_2, (List.forall_mem_append.mpr ⟨wsLt_3, (List.forall_mem_append.mpr ⟨wsLt_4, (List.forall_mem_append.mpr ⟨wsLt_5, (List.forall_mem_append.mpr ⟨wsLt_6, (List.forall_mem_append.mpr ⟨wsLt_7, (List.forall_mem_append.mpr ⟨wsLt_8, (List.forall_mem_append.mpr ⟨wsLt_9, (List.forall_mem_append.mpr ⟨wsLt_10, (List.forall_mem_append.mpr ⟨wsLt_11, (List.forall_mem_append.mpr ⟨wsLt_12, (List.forall_mem_append.mpr ⟨wsLt_13, (List.forall_mem_append.mpr ⟨wsLt_14, (List.forall_mem_append.mpr ⟨wsLt_15, (List.forall_mem_append.mpr ⟨wsLt_16, (List.forall_mem_append.mpr ⟨wsLt_17, (List.forall_mem_append.mpr ⟨wsLt_18, (List.forall_mem_append.mpr ⟨wsLt_19, (List.forall_mem_append.mpr ⟨wsLt_20, (List.forall_mem_append.mpr ⟨wsLt_21, (List.forall_mem_append.mpr ⟨wsLt_22, (List.forall_mem_append.mpr ⟨wsLt_23, (List.forall_mem_append.mpr ⟨wsLt_24, (List.forall_mem_append.mpr ⟨wsLt_25, wsLt_26⟩)⟩)⟩)⟩)⟩)⟩)⟩)⟩)⟩)⟩)⟩)⟩)⟩)⟩)⟩)⟩)⟩)⟩)⟩)⟩)⟩)⟩)⟩)⟩)⟩), wsLt_X4⟩), wsLt_X5⟩), wsLt_X0⟩), wsLt_X2⟩), wsLt_X3⟩), wsLt_X1⟩), (fun _ h => absurd h List.not_mem_nil)⟩
theorem wsLt : ∀ w ∈ wsL_law, w ∈ lw_tbl := List.forall_mem_append.mpr ⟨(List.forall_mem_append.mpr ⟨wsLt_0, wsLt_x0⟩), wsLt_x1⟩
end XTAB
