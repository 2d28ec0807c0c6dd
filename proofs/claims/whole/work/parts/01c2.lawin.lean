theorem mem_pl {big ws : List Cond} (ps : List Nat) (hp : ws = ps.filterMap (fun i => big[i]?)) : ∀ w ∈ ws, w ∈ big := by
  intro w hw
  rw [hp] at hw
  obtain ⟨i, -, hi⟩ := List.mem_filterMap.mp hw
  exact List.mem_of_getElem? hi
set_option maxRecDepth 20000 in
theorem wsLc_1 : ∀ w ∈ wsL_law0_r1, w ∈ lw_tbl := mem_pl [36, 37, 22, 643, 644, 23, 73, 38, 39, 40, 41, 42, 43, 72, 44, 45, 46, 47, 48, 49, 50, 51, 52, 645] (by decide +kernel)
set_option maxRecDepth 20000 in
theorem wsLc_2 : ∀ w ∈ wsL_law0_r2, w ∈ lw_tbl := mem_pl [646, 647, 648, 649, 650, 651, 652, 653, 654, 655, 656, 113, 114, 21, 115, 116, 196, 197, 198, 199, 200, 201, 202, 203] (by decide +kernel)
set_option maxRecDepth 20000 in
theorem wsLc_3 : ∀ w ∈ wsL_law0_r3, w ∈ lw_tbl := mem_pl [204, 27, 217, 218, 219, 220, 30, 236, 237, 238, 239, 240, 241, 242, 243, 244, 245, 246, 247, 248, 250, 2, 251, 690] (by decide +kernel)
set_option maxRecDepth 20000 in
theorem wsLc_4 : ∀ w ∈ wsL_law0_r4, w ∈ lw_tbl := mem_pl [691, 692, 693, 657, 658, 659, 694, 695, 696, 697, 699, 8, 700, 660, 701, 702, 703, 704, 705, 706, 707, 709, 9, 710] (by decide +kernel)
set_option maxRecDepth 20000 in
theorem wsLc_5 : ∀ w ∈ wsL_law0_r5, w ∈ lw_tbl := mem_pl [711, 712, 713, 714, 715, 717, 10, 718, 719, 720, 722, 11, 723, 686, 687, 688, 689, 252, 253, 254, 255, 256, 257, 258] (by decide +kernel)
set_option maxRecDepth 20000 in
theorem wsLc_6 : ∀ w ∈ wsL_law0_r6, w ∈ lw_tbl := mem_pl [259, 260, 261, 262, 263, 264, 265, 277, 31, 266, 267, 268, 276, 269, 270, 271, 272, 273, 274, 275, 293, 294, 295, 724] (by decide +kernel)
set_option maxRecDepth 20000 in
theorem wsLc_7 : ∀ w ∈ wsL_law0_r7, w ∈ lw_tbl := mem_pl [725, 726, 727, 728, 729, 730, 296, 297, 298, 299, 300, 301, 302, 731, 732, 733, 734, 303, 304, 305, 306, 307, 321, 322] (by decide +kernel)
set_option maxRecDepth 20000 in
theorem wsLc_8 : ∀ w ∈ wsL_law0_r8, w ∈ lw_tbl := mem_pl [323, 324, 325, 33, 341, 32, 735, 736, 737, 738, 344, 345, 346, 347, 348, 349, 350, 739, 740, 741, 742, 351, 352, 353] (by decide +kernel)
set_option maxRecDepth 20000 in
theorem wsLc_9 : ∀ w ∈ wsL_law0_r9, w ∈ lw_tbl := mem_pl [354, 355, 356, 357, 358, 359, 34, 743, 744, 745, 746, 74, 75, 76, 77, 747, 748, 749, 750, 375, 376, 377, 378, 379] (by decide +kernel)
set_option maxRecDepth 20000 in
theorem wsLc_10 : ∀ w ∈ wsL_law0_r10, w ∈ lw_tbl := mem_pl [380, 381, 751, 752, 753, 754, 382, 383, 384, 385, 386, 387, 388, 755, 756, 757, 758, 389, 390, 391, 392, 393, 394, 395] (by decide +kernel)
set_option maxRecDepth 20000 in
theorem wsLc_11 : ∀ w ∈ wsL_law0_r11, w ∈ lw_tbl := mem_pl [759, 760, 761, 762, 396, 397, 398, 399, 400, 401, 402, 103, 105, 0, 106, 107, 108, 109, 110, 111, 112, 97, 98, 99] (by decide +kernel)
set_option maxRecDepth 20000 in
theorem wsLc_12 : ∀ w ∈ wsL_law0_r12, w ∈ lw_tbl := mem_pl [100, 101, 102, 763, 764, 765, 766, 774, 767, 768, 769, 773, 770, 771, 772, 403, 404, 405, 406, 407, 408, 409, 775, 776] (by decide +kernel)
set_option maxRecDepth 20000 in
theorem wsLc_13 : ∀ w ∈ wsL_law0_r13, w ∈ lw_tbl := mem_pl [777, 778, 410, 411, 412, 413, 414, 415, 416, 417, 419, 3, 420, 421, 422, 423, 425, 427, 4, 428, 779, 780, 781, 782] (by decide +kernel)
set_option maxRecDepth 20000 in
theorem wsLc_14 : ∀ w ∈ wsL_law0_r14, w ∈ lw_tbl := mem_pl [783, 785, 12, 786, 787, 789, 13, 790, 429, 430, 431, 432, 433, 434, 435, 436, 438, 5, 439, 791, 792, 793, 794, 795] (by decide +kernel)
set_option maxRecDepth 20000 in
theorem wsLc_15 : ∀ w ∈ wsL_law0_r15, w ∈ lw_tbl := mem_pl [797, 14, 798, 799, 801, 15, 802, 440, 441, 442, 443, 444, 445, 446, 803, 804, 805, 806, 447, 448, 449, 450, 451, 452] (by decide +kernel)
set_option maxRecDepth 20000 in
theorem wsLc_16 : ∀ w ∈ wsL_law0_r16, w ∈ lw_tbl := mem_pl [453, 454, 456, 6, 457, 807, 808, 809, 810, 458, 459, 460, 461, 462, 463, 464, 465, 466, 467, 469, 470, 471, 811, 812] (by decide +kernel)
set_option maxRecDepth 20000 in
theorem wsLc_17 : ∀ w ∈ wsL_law0_r17, w ∈ lw_tbl := mem_pl [813, 814, 815, 817, 16, 818, 472, 473, 474, 475, 476, 477, 478, 819, 820, 821, 822, 479, 480, 481, 482, 483, 484, 485] (by decide +kernel)
set_option maxRecDepth 20000 in
theorem wsLc_18 : ∀ w ∈ wsL_law0_r18, w ∈ lw_tbl := mem_pl [823, 824, 825, 826, 487, 488, 489, 490, 491, 492, 493, 827, 828, 829, 830, 495, 496, 497, 498, 499, 500, 501, 502, 503] (by decide +kernel)
set_option maxRecDepth 20000 in
theorem wsLc_19 : ∀ w ∈ wsL_law0_r19, w ∈ lw_tbl := mem_pl [504, 831, 832, 833, 834, 835, 837, 17, 838, 839, 841, 18, 842, 506, 507, 508, 509, 510, 511, 512, 513, 514, 515, 516] (by decide +kernel)
set_option maxRecDepth 20000 in
theorem wsLc_20 : ∀ w ∈ wsL_law0_r20, w ∈ lw_tbl := mem_pl [517, 35, 518, 843, 844, 845, 846, 847, 849, 19, 850, 519, 520, 521, 522, 523, 524, 525, 851, 852, 853, 854, 526, 527] (by decide +kernel)
set_option maxRecDepth 20000 in
theorem wsLc_21 : ∀ w ∈ wsL_law0_r21, w ∈ lw_tbl := mem_pl [528, 529, 530, 531, 532, 90, 91, 92, 96, 93, 94, 95, 85, 86, 87, 88, 89, 533, 534, 535, 855, 856, 857, 858] (by decide +kernel)
set_option maxRecDepth 20000 in
theorem wsLc_22 : ∀ w ∈ wsL_law0_r22, w ∈ lw_tbl := mem_pl [536, 537, 538, 539, 540, 541, 542, 543, 544, 545, 82, 83, 84, 859, 860, 861, 862, 546, 547, 548, 549, 550, 551, 552] (by decide +kernel)
set_option maxRecDepth 20000 in
theorem wsLc_23 : ∀ w ∈ wsL_law0_r23, w ∈ lw_tbl := mem_pl [863, 864, 865, 866, 553, 554, 555, 556, 557, 558, 559, 560, 561, 562, 563, 564, 565, 566, 567, 568, 569, 570, 571, 572] (by decide +kernel)
set_option maxRecDepth 20000 in
theorem wsLc_24 : ∀ w ∈ wsL_law0_r24, w ∈ lw_tbl := mem_pl [573, 574, 575, 576, 867, 868, 869, 870, 871, 872, 873, 877, 874, 875, 876, 577, 578, 579, 580, 581, 582, 583, 584, 585] (by decide +kernel)
set_option maxRecDepth 20000 in
theorem wsLc_25 : ∀ w ∈ wsL_law0_r25, w ∈ lw_tbl := mem_pl [586, 587, 588, 589, 590, 591, 592, 593, 594, 595, 878, 879, 880, 881, 596, 597, 598, 599, 600, 601, 602, 882, 883, 884] (by decide +kernel)
set_option maxRecDepth 20000 in
theorem wsLc_26 : ∀ w ∈ wsL_law0_r26, w ∈ lw_tbl := mem_pl [885, 603, 604, 605, 606, 607, 608, 609, 610, 611, 612, 613, 614, 615, 616, 886, 887, 888, 889, 890, 891, 892, 893, 894] (by decide +kernel)
set_option maxRecDepth 20000 in
theorem wsLc_27 : ∀ w ∈ wsL_law0_r27, w ∈ lw_tbl := mem_pl [895, 896, 897, 898, 899, 617, 618, 619, 620, 621, 622, 623, 900, 901, 902, 903, 624, 625, 626, 627, 628, 629, 630, 631] (by decide +kernel)
set_option maxRecDepth 20000 in
theorem wsLc_28 : ∀ w ∈ wsL_law0_r28, w ∈ lw_tbl := mem_pl [633, 7, 634, 904, 905, 906, 907, 908, 910, 20, 911, 636, 637, 638, 639, 640, 641, 642, 912, 913, 914, 915, 78, 79] (by decide +kernel)
set_option maxRecDepth 20000 in
theorem wsLc_29 : ∀ w ∈ wsL_law0_r29, w ∈ lw_tbl := mem_pl [80, 81, 916, 917, 918, 919] (by decide +kernel)
set_option maxRecDepth 20000 in
theorem wsLc_X0 : ∀ w ∈ wsX00, w ∈ lw_tbl := by decide +kernel
set_option maxRecDepth 20000 in
theorem wsLc_X1 : ∀ w ∈ wsX10, w ∈ lw_tbl := by decide +kernel
theorem mem_ap {big a b : List Cond} (ha : ∀ w ∈ a, w ∈ big) (hb : ∀ w ∈ b, w ∈ big) : ∀ w ∈ a ++ b, w ∈ big := fun w h => (List.mem_append.mp h).elim (ha w) (hb w)
theorem wsL_law_in0 : ∀ w ∈ wsL_law0, w ∈ lw_tbl := mem_ap (mem_ap (mem_ap (mem_ap wsLc_1 (mem_ap wsLc_2 (mem_ap wsLc_3 (mem_ap wsLc_4 (mem_ap wsLc_5 (mem_ap wsLc_6 (mem_ap wsLc_7 (mem_ap wsLc_8 (mem_ap wsLc_9 (mem_ap wsLc_10 (mem_ap wsLc_11 (mem_ap wsLc_12 (mem_ap wsLc_13 (mem_ap wsLc_14 (mem_ap wsLc_15 (mem_ap wsLc_16 (mem_ap wsLc_17 (mem_ap wsLc_18 (mem_ap wsLc_19 (mem_ap wsLc_20 (mem_ap wsLc_21 (mem_ap wsLc_22 (mem_ap wsLc_23 (mem_ap wsLc_24 (mem_ap wsLc_25 (mem_ap wsLc_26 (mem_ap wsLc_27 (mem_ap wsLc_28 wsLc_29)))))))))))))))))))))))))))) wsLc_X0) wsLc_X1) (fun _ h => absurd h List.not_mem_nil)
theorem wsL_law_x0 : ∀ w ∈ (vx_atM "java/lang/ArrayIndexOutOfBoundsException" ["java/lang/IndexOutOfBoundsException", "java/lang/RuntimeException", "java/lang/Exception"]).filter goodWord, w ∈ lw_tbl := by decide +kernel
theorem wsL_law_x1 : ∀ w ∈ (vx_atS RX0 198 "java/lang/IndexOutOfBoundsException" ["java/lang/RuntimeException", "java/lang/Exception"]).filter goodWord, w ∈ lw_tbl := by decide +kernel
theorem wsL_law_x2 : ∀ w ∈ (vx_atS RX0 131 "java/lang/IllegalArgumentException" ["java/lang/RuntimeException", "java/lang/Exception"]).filter goodWord, w ∈ lw_tbl := by decide +kernel
theorem wsL_law_x3 : ∀ w ∈ (vx_atM "java/lang/ArithmeticException" ["java/lang/RuntimeException", "java/lang/Exception"]).filter goodWord, w ∈ lw_tbl := by decide +kernel
theorem wsL_law_x4 : ∀ w ∈ (vx_atS RX0 97 "java/lang/UnsupportedOperationException" ["java/lang/RuntimeException", "java/lang/Exception"]).filter goodWord, w ∈ lw_tbl := by decide +kernel
theorem wsL_law_x5 : ∀ w ∈ (vx_atS RX0 81 "java/lang/IllegalStateException" ["java/lang/RuntimeException", "java/lang/Exception"]).filter goodWord, w ∈ lw_tbl := by decide +kernel
theorem wsL_law_x6 : ∀ w ∈ (vx_atS RX0 88 "java/lang/ArithmeticException" ["java/lang/RuntimeException", "java/lang/Exception"]).filter goodWord, w ∈ lw_tbl := by decide +kernel
theorem wsL_law_x7 : ∀ w ∈ (nx_at RX0 102 "java/util/NoSuchElementException" 13 prog_16_method_4_code ["java/lang/RuntimeException", "java/lang/Exception"]).filter goodWord, w ∈ lw_tbl := by decide +kernel
theorem wsL_law_in : ∀ w ∈ wsL_law, w ∈ lw_tbl := fun w h => (List.mem_append.mp h).elim (fun h => (List.mem_append.mp h).elim (fun h => (List.mem_append.mp h).elim (fun h => (List.mem_append.mp h).elim (fun h => (List.mem_append.mp h).elim (fun h => (List.mem_append.mp h).elim (fun h => (List.mem_append.mp h).elim (fun h => (List.mem_append.mp h).elim (fun h => wsL_law_in0 w h) (fun h => wsL_law_x0 w h)) (fun h => wsL_law_x1 w h)) (fun h => wsL_law_x2 w h)) (fun h => wsL_law_x3 w h)) (fun h => wsL_law_x4 w h)) (fun h => wsL_law_x5 w h)) (fun h => wsL_law_x6 w h)) (fun h => wsL_law_x7 w h)
theorem inlX0 : ∀ w ∈ wsX00, w ∈ wsL_law := fun _ h => List.mem_append_left _ (List.mem_append_left _ (List.mem_append_left _ (List.mem_append_left _ (List.mem_append_left _ (List.mem_append_left _ (List.mem_append_left _ (List.mem_append_left _ (List.mem_append_left _ (List.mem_append_left _ (List.mem_append_right _ h))))))))))
theorem inX0 : ∀ w ∈ wsX00, w ∈ lw_tbl := fun w h => wsL_law_in w (inlX0 w h)
theorem inlX1 : ∀ w ∈ wsX10, w ∈ wsL_law := fun _ h => List.mem_append_left _ (List.mem_append_left _ (List.mem_append_left _ (List.mem_append_left _ (List.mem_append_left _ (List.mem_append_left _ (List.mem_append_left _ (List.mem_append_left _ (List.mem_append_left _ (List.mem_append_right _ h)))))))))
theorem inX1 : ∀ w ∈ wsX10, w ∈ lw_tbl := fun w h => wsL_law_in w (inlX1 w h)
theorem inJx145de : ∀ w ∈ wsJx145de0, w ∈ lw_tbl := by decide +kernel
theorem inJx00060 : ∀ w ∈ wsJx000600, w ∈ lw_tbl := by decide +kernel
theorem inJ9 : ∀ w ∈ wsJ90, w ∈ lw_tbl := by decide +kernel
theorem inJ0 : ∀ w ∈ wsJ00, w ∈ lw_tbl := by decide +kernel
