section XTAB
set_option maxRecDepth 20000 in
theorem wsLt_1 : ∀ w ∈ wsL_law0_r1, w ∈ lw_tbl := fun w h => (goodIn_r wsL_law0_r1 [37, 38, 23, 560, 561, 29, 794, 165, 166, 22, 167, 39, 40, 41, 42, 43, 44, 45, 46, 24, 47, 48, 49, 50] (by decide +kernel) (by decide +kernel) w h).1
set_option maxRecDepth 20000 in
theorem wsLt_2 : ∀ w ∈ wsL_law0_r2, w ∈ lw_tbl := fun w h => (goodIn_r wsL_law0_r2 [134, 51, 126, 53, 25, 79, 80, 26, 127, 90, 91, 27, 128, 108, 109, 28, 129, 130, 131, 78, 132, 133, 135, 55] (by decide +kernel) (by decide +kernel) w h).1
set_option maxRecDepth 20000 in
theorem wsLt_3 : ∀ w ∈ wsL_law0_r3, w ∈ lw_tbl := fun w h => (goodIn_r wsL_law0_r3 [56, 57, 58, 63, 66, 82, 83, 84, 85, 93, 94, 95, 96, 97, 99, 110, 111, 112, 113, 114, 117, 116, 562, 563] (by decide +kernel) (by decide +kernel) w h).1
set_option maxRecDepth 20000 in
theorem wsLt_4 : ∀ w ∈ wsL_law0_r4, w ∈ lw_tbl := fun w h => (goodIn_r wsL_law0_r4 [564, 565, 566, 573, 567, 574, 613, 575, 577, 578, 579, 580, 568, 569, 581, 571, 168, 169, 170, 171, 172, 173, 174, 175] (by decide +kernel) (by decide +kernel) w h).1
set_option maxRecDepth 20000 in
theorem wsLt_5 : ∀ w ∈ wsL_law0_r5, w ∈ lw_tbl := fun w h => (goodIn_r wsL_law0_r5 [176, 177, 179, 0, 180, 181, 33, 248, 249, 250, 251, 252, 253, 254, 255, 34, 271, 273, 2, 274, 275, 276, 277, 278] (by decide +kernel) (by decide +kernel) w h).1
set_option maxRecDepth 20000 in
theorem wsLt_6 : ∀ w ∈ wsL_law0_r6, w ∈ lw_tbl := fun w h => (goodIn_r wsL_law0_r6 [279, 280, 281, 294, 282, 283, 284, 285, 287, 288, 289, 291, 3, 292, 293, 295, 296, 297, 35, 298, 299, 300, 301, 302] (by decide +kernel) (by decide +kernel) w h).1
set_option maxRecDepth 20000 in
theorem wsLt_7 : ∀ w ∈ wsL_law0_r7, w ∈ lw_tbl := fun w h => (goodIn_r wsL_law0_r7 [303, 305, 306, 307, 309, 308, 36, 618, 619, 620, 621, 572, 622, 623, 624, 625, 626, 627, 628, 630, 7, 631, 570, 632] (by decide +kernel) (by decide +kernel) w h).1
set_option maxRecDepth 20000 in
theorem wsLt_8 : ∀ w ∈ wsL_law0_r8, w ∈ lw_tbl := fun w h => (goodIn_r wsL_law0_r8 [634, 8, 635, 576, 636, 638, 9, 639, 614, 615, 616, 617, 311, 312, 313, 314, 315, 316, 317, 640, 641, 642, 643, 318] (by decide +kernel) (by decide +kernel) w h).1
set_option maxRecDepth 20000 in
theorem wsLt_9 : ∀ w ∈ wsL_law0_r9, w ∈ lw_tbl := fun w h => (goodIn_r wsL_law0_r9 [319, 320, 321, 322, 323, 324, 325, 326, 327, 328, 644, 645, 646, 647, 648, 650, 10, 651, 329, 330, 331, 332, 333, 334] (by decide +kernel) (by decide +kernel) w h).1
set_option maxRecDepth 20000 in
theorem wsLt_10 : ∀ w ∈ wsL_law0_r10, w ∈ lw_tbl := fun w h => (goodIn_r wsL_law0_r10 [335, 62, 65, 70, 652, 653, 654, 655, 336, 337, 338, 339, 340, 341, 342, 656, 657, 658, 659, 157, 158, 159, 160, 660] (by decide +kernel) (by decide +kernel) w h).1
set_option maxRecDepth 20000 in
theorem wsLt_11 : ∀ w ∈ wsL_law0_r11, w ∈ lw_tbl := fun w h => (goodIn_r wsL_law0_r11 [661, 662, 663, 343, 344, 345, 346, 347, 348, 349, 664, 665, 666, 667, 350, 351, 352, 353, 354, 355, 356, 357, 668, 669] (by decide +kernel) (by decide +kernel) w h).1
set_option maxRecDepth 20000 in
theorem wsLt_12 : ∀ w ∈ wsL_law0_r12, w ∈ lw_tbl := fun w h => (goodIn_r wsL_law0_r12 [670, 671, 358, 359, 360, 361, 362, 363, 364, 365, 366, 367, 368, 369, 672, 673, 674, 675, 370, 371, 372, 373, 374, 375] (by decide +kernel) (by decide +kernel) w h).1
set_option maxRecDepth 20000 in
theorem wsLt_13 : ∀ w ∈ wsL_law0_r13, w ∈ lw_tbl := fun w h => (goodIn_r wsL_law0_r13 [376, 377, 378, 379, 380, 381, 382, 383, 676, 677, 678, 679, 680, 681, 682, 683, 684, 685, 686, 161, 162, 163, 164, 687] (by decide +kernel) (by decide +kernel) w h).1
set_option maxRecDepth 20000 in
theorem wsLt_14 : ∀ w ∈ wsL_law0_r14, w ∈ lw_tbl := fun w h => (goodIn_r wsL_law0_r14 [688, 689, 690, 384, 385, 386, 387, 388, 389, 390, 118, 391, 392, 393, 394, 68, 60, 395, 396, 397, 398, 401, 403, 4] (by decide +kernel) (by decide +kernel) w h).1
set_option maxRecDepth 20000 in
theorem wsLt_15 : ∀ w ∈ wsL_law0_r15, w ∈ lw_tbl := fun w h => (goodIn_r wsL_law0_r15 [404, 691, 692, 693, 694, 695, 697, 11, 698, 699, 701, 12, 702, 406, 407, 408, 409, 410, 411, 412, 115, 414, 703, 704] (by decide +kernel) (by decide +kernel) w h).1
set_option maxRecDepth 20000 in
theorem wsLt_16 : ∀ w ∈ wsL_law0_r16, w ∈ lw_tbl := fun w h => (goodIn_r wsL_law0_r16 [705, 706, 415, 416, 417, 418, 419, 420, 421, 422, 423, 424, 425, 426, 707, 708, 709, 710, 711, 713, 13, 714, 427, 428] (by decide +kernel) (by decide +kernel) w h).1
set_option maxRecDepth 20000 in
theorem wsLt_17 : ∀ w ∈ wsL_law0_r17, w ∈ lw_tbl := fun w h => (goodIn_r wsL_law0_r17 [429, 430, 431, 432, 433, 434, 436, 5, 437, 438, 439, 440, 441, 442, 715, 716, 717, 718, 719, 721, 14, 722, 723, 725] (by decide +kernel) (by decide +kernel) w h).1
set_option maxRecDepth 20000 in
theorem wsLt_18 : ∀ w ∈ wsL_law0_r18, w ∈ lw_tbl := fun w h => (goodIn_r wsL_law0_r18 [15, 726, 583, 582, 727, 728, 730, 16, 731, 732, 734, 17, 735, 443, 444, 445, 446, 447, 448, 449, 450, 451, 452, 453] (by decide +kernel) (by decide +kernel) w h).1
set_option maxRecDepth 20000 in
theorem wsLt_19 : ∀ w ∈ wsL_law0_r19, w ∈ lw_tbl := fun w h => (goodIn_r wsL_law0_r19 [454, 455, 456, 457, 458, 736, 737, 738, 739, 459, 460, 461, 462, 463, 464, 465, 740, 741, 742, 743, 466, 467, 468, 469] (by decide +kernel) (by decide +kernel) w h).1
set_option maxRecDepth 20000 in
theorem wsLt_20 : ∀ w ∈ wsL_law0_r20, w ∈ lw_tbl := fun w h => (goodIn_r wsL_law0_r20 [470, 471, 472, 86, 474, 475, 476, 477, 478, 479, 480, 481, 69, 64, 61, 485, 487, 6, 488, 490, 491, 744, 745, 746] (by decide +kernel) (by decide +kernel) w h).1
set_option maxRecDepth 20000 in
theorem wsLt_21 : ∀ w ∈ wsL_law0_r21, w ∈ lw_tbl := fun w h => (goodIn_r wsL_law0_r21 [747, 748, 750, 18, 751, 752, 753, 754, 492, 493, 494, 495, 496, 497, 498, 499, 500, 501, 502, 503, 504, 505, 506, 755] (by decide +kernel) (by decide +kernel) w h).1
set_option maxRecDepth 20000 in
theorem wsLt_22 : ∀ w ∈ wsL_law0_r22, w ∈ lw_tbl := fun w h => (goodIn_r wsL_law0_r22 [756, 757, 758, 759, 761, 19, 762, 763, 764, 765, 508, 509, 510, 511, 512, 513, 514, 515, 766, 767, 768, 769, 516, 517] (by decide +kernel) (by decide +kernel) w h).1
set_option maxRecDepth 20000 in
theorem wsLt_23 : ∀ w ∈ wsL_law0_r23, w ∈ lw_tbl := fun w h => (goodIn_r wsL_law0_r23 [518, 519, 520, 521, 522, 98, 523, 524, 525, 526, 67, 59, 529, 530, 531, 770, 771, 772, 773, 774, 776, 20, 777, 778] (by decide +kernel) (by decide +kernel) w h).1
set_option maxRecDepth 20000 in
theorem wsLt_24 : ∀ w ∈ wsL_law0_r24, w ∈ lw_tbl := fun w h => (goodIn_r wsL_law0_r24 [780, 21, 781, 534, 535, 536, 537, 538, 539, 540, 100, 782, 783, 784, 785, 541, 542, 543, 544, 545, 546, 547, 549, 550] (by decide +kernel) (by decide +kernel) w h).1
set_option maxRecDepth 20000 in
theorem wsLt_25 : ∀ w ∈ wsL_law0_r25, w ∈ lw_tbl := fun w h => (goodIn_r wsL_law0_r25 [551, 552, 786, 787, 788, 789, 553, 554, 555, 556, 557, 558, 559, 790, 791, 792, 793] (by decide +kernel) (by decide +kernel) w h).1
set_option maxRecDepth 20000 in
theorem wsLt_X4 : ∀ w ∈ wsX40, w ∈ lw_tbl := by decide +kernel
set_option maxRecDepth 20000 in
theorem wsLt_X5 : ∀ w ∈ wsX50, w ∈ lw_tbl := by decide +kernel
set_option maxRecDepth 20000 in
theorem wsLt_X0 : ∀ w ∈ wsX00, w ∈ lw_tbl := by decide +kernel
set_option maxRecDepth 20000 in
theorem wsLt_X2 : ∀ w ∈ wsX20, w ∈ lw_tbl := by decide +kernel
set_option maxRecDepth 20000 in
theorem wsLt_X3 : ∀ w ∈ wsX30, w ∈ lw_tbl := by decide +kernel
set_option maxRecDepth 20000 in
theorem wsLt_X1 : ∀ w ∈ wsX10, w ∈ lw_tbl := by decide +kernel
set_option maxRecDepth 20000 in
theorem wsLt_x0 : ∀ w ∈ (vx_atS RX4 121 "java/lang/IndexOutOfBoundsException" ["java/lang/RuntimeException", "java/lang/Exception"]).filter goodWord, w ∈ lw_tbl := by decide +kernel
set_option maxRecDepth 20000 in
theorem wsLt_x1 : ∀ w ∈ (vx_atS RX4 178 "java/lang/IllegalArgumentException" ["java/lang/RuntimeException", "java/lang/Exception"]).filter goodWord, w ∈ lw_tbl := by decide +kernel
theorem wsLt_0 : ∀ w ∈ wsL_law0, w ∈ lw_tbl := List.forall_mem_append.mpr ⟨(List.forall_mem_append.mpr ⟨(List.forall_mem_append.mpr ⟨(List.forall_mem_append.mpr ⟨(List.forall_mem_append.mpr ⟨(List.forall_mem_append.mpr ⟨(List.forall_mem_append.mpr ⟨(List.forall_mem_append.mpr ⟨wsLt_1, (List.forall_mem_append.mpr ⟨wsLt_2, (List.forall_mem_append.mpr ⟨wsLt_3, (List.forall_mem_append.mpr ⟨wsLt_4, (List.forall_mem_append.mpr ⟨wsLt_5, (List.forall_mem_append.mpr ⟨wsLt_6, (List.forall_mem_append.mpr ⟨wsLt_7, (List.forall_mem_append.mpr ⟨wsLt_8, (List.forall_mem_append.mpr ⟨wsLt_9, (List.forall_mem_append.mpr ⟨wsLt_10, (List.forall_mem_append.mpr ⟨wsLt_11, (List.forall_mem_append.mpr ⟨wsLt_12, (List.forall_mem_append.mpr ⟨wsLt_13, (List.forall_mem_append.mpr ⟨wsLt_14, (List.forall_mem_append.mpr ⟨wsLt_15, (List.forall_mem_append.mpr ⟨wsLt_16, (List.forall_mem_append.mpr ⟨wsLt_17, (List.forall_mem_append.mpr ⟨wsLt_18, (List.forall_mem_append.mpr ⟨wsLt_19, (List.forall_mem_append.mpr ⟨wsLt_20, (List.forall_mem_append.mpr ⟨wsLt_21, (List.forall_mem_append.mpr ⟨wsLt_22, (List.forall_mem_append.mpr ⟨wsLt_23, (List.forall_mem_append.mpr ⟨wsLt_24, wsLt_25⟩)⟩)⟩)⟩)⟩)⟩)⟩)⟩)⟩)⟩)⟩)⟩)⟩)⟩)⟩)⟩)⟩)⟩)⟩)⟩)⟩)⟩)⟩)⟩), wsLt_X4⟩), wsLt_X5⟩), wsLt_X0⟩), wsLt_X2⟩), wsLt_X3⟩), wsLt_X1⟩), (fun _ h => absurd h List.not_mem_nil)⟩
theorem wsLt : ∀ w ∈ wsL_law, w ∈ lw_tbl := List.forall_mem_append.mpr ⟨(List.forall_mem_append.mpr ⟨wsLt_0, wsLt_x0⟩), wsLt_x1⟩
end XTAB
