/-! the words of the law, by their places in the tables -/
theorem mem_ix {l t : List Cond} (is : List Nat) (h : l.map some = is.map (fun i => t[i]?)) : ∀ w ∈ l, w ∈ t := by
  intro w hw
  have h1 : some w ∈ is.map (fun i => t[i]?) := by rw [← h]; exact List.mem_map.mpr ⟨w, hw, rfl⟩
  obtain ⟨i, -, hi⟩ := List.mem_map.mp h1
  exact List.mem_of_getElem? hi
theorem lin_r1 : ∀ w ∈ wsL_law_r1, w ∈ lw_tbl := mem_ix [81, 82, 69, 636, 637, 75, 83, 84, 85, 86, 87, 88, 89, 90, 70, 225, 128, 129, 72, 226, 148, 227, 150, 228] (by decide +kernel)
theorem lin_r2 : ∀ w ∈ wsL_law_r2, w ∈ lw_tbl := mem_ix [152, 73, 181, 182, 74, 229, 232, 92, 93, 94, 126, 98, 99, 100, 127, 101, 102, 105, 95, 96, 71, 97, 131, 132] (by decide +kernel)
theorem lin_r3 : ∀ w ∈ wsL_law_r3, w ∈ lw_tbl := mem_ix [133, 134, 135, 136, 154, 155, 156, 158, 159, 162, 164, 157, 184, 185, 186, 187, 188, 189, 638, 639, 640, 641, 644, 645] (by decide +kernel)
theorem lin_r4 : ∀ w ∈ wsL_law_r4, w ∈ lw_tbl := mem_ix [646, 647, 648, 650, 651, 652, 653, 654, 655, 656, 763, 657, 658, 659, 660, 662, 663, 664, 665, 666, 667, 668, 669, 670] (by decide +kernel)
theorem lin_r5 : ∀ w ∈ wsL_law_r5, w ∈ lw_tbl := mem_ix [679, 680, 681, 250, 251, 252, 253, 254, 255, 256, 259, 0, 260, 103, 764, 765, 766, 767, 643, 768, 769, 770, 261, 262] (by decide +kernel)
theorem lin_r6 : ∀ w ∈ wsL_law_r6, w ∈ lw_tbl := mem_ix [263, 264, 231, 267, 1, 268, 270, 272, 2, 273, 107, 274, 276, 3, 277, 279, 280, 281, 283, 4, 284, 285, 287, 5] (by decide +kernel)
theorem lin_r7 : ∀ w ∈ wsL_law_r7, w ∈ lw_tbl := mem_ix [288, 289, 291, 6, 292, 293, 295, 7, 296, 297, 299, 298, 76, 300, 302, 8, 303, 771, 772, 773, 774, 775, 777, 52] (by decide +kernel)
theorem lin_r8 : ∀ w ∈ wsL_law_r8, w ∈ lw_tbl := mem_ix [778, 779, 781, 53, 782, 642, 304, 305, 306, 307, 310, 9, 311, 783, 784, 785, 786, 342, 343, 344, 345, 230, 346, 77] (by decide +kernel)
theorem lin_r9 : ∀ w ∈ wsL_law_r9, w ∈ lw_tbl := mem_ix [348, 349, 350, 352, 356, 354, 355, 360, 351, 787, 788, 789, 790, 649, 390, 391, 392, 393, 394, 396, 15, 397, 791, 792] (by decide +kernel)
theorem lin_r10 : ∀ w ∈ wsL_law_r10, w ∈ lw_tbl := mem_ix [793, 794, 795, 797, 54, 798, 398, 399, 400, 401, 404, 16, 405, 137, 799, 800, 801, 802, 661, 406, 407, 408, 409, 803] (by decide +kernel)
theorem lin_r11 : ∀ w ∈ wsL_law_r11, w ∈ lw_tbl := mem_ix [804, 805, 806, 410, 411, 412, 413, 414, 416, 17, 417, 420, 18, 421, 423, 424, 425, 429, 19, 430, 433, 20, 434, 358] (by decide +kernel)
theorem lin_r12 : ∀ w ∈ wsL_law_r12, w ∈ lw_tbl := mem_ix [435, 437, 21, 438, 364, 439, 441, 22, 442, 362, 444, 336, 13, 337, 446, 447, 448, 449, 78, 450, 451, 452, 453, 457] (by decide +kernel)
theorem lin_r13 : ∀ w ∈ wsL_law_r13, w ∈ lw_tbl := mem_ix [23, 458, 459, 461, 24, 462, 463, 464, 79, 465, 366, 466, 468, 25, 469, 470, 472, 26, 473, 807, 808, 809, 810, 811] (by decide +kernel)
theorem lin_r14 : ∀ w ∈ wsL_law_r14, w ∈ lw_tbl := mem_ix [813, 55, 814, 815, 817, 56, 818, 819, 821, 57, 822, 823, 825, 58, 826, 827, 829, 59, 830, 831, 833, 60, 834, 492] (by decide +kernel)
theorem lin_r15 : ∀ w ∈ wsL_law_r15, w ∈ lw_tbl := mem_ix [493, 494, 495, 496, 498, 29, 499, 502, 30, 503, 507, 31, 508, 835, 836, 837, 838, 839, 840, 841, 509, 510, 511, 512] (by decide +kernel)
theorem lin_r16 : ∀ w ∈ wsL_law_r16, w ∈ lw_tbl := mem_ix [842, 843, 844, 845, 513, 514, 515, 516, 846, 847, 848, 849, 517, 518, 519, 520, 521, 522, 80, 523, 524, 525, 526, 850] (by decide +kernel)
theorem lin_r17 : ∀ w ∈ wsL_law_r17, w ∈ lw_tbl := mem_ix [851, 852, 853, 527, 528, 529, 530, 533, 32, 534, 190, 192, 194, 196, 198, 200, 202, 537, 33, 538, 160, 539, 541, 34] (by decide +kernel)
theorem lin_r18 : ∀ w ∈ wsL_law_r18, w ∈ lw_tbl := mem_ix [542, 166, 544, 546, 35, 547, 548, 550, 36, 551, 552, 554, 37, 555, 558, 38, 559, 563, 39, 564, 567, 40, 568, 569] (by decide +kernel)
theorem lin_r19 : ∀ w ∈ wsL_law_r19, w ∈ lw_tbl := mem_ix [571, 41, 572, 328, 11, 329, 575, 42, 576, 577, 578, 580, 43, 581, 582, 584, 44, 585, 586, 588, 45, 589, 490, 28] (by decide +kernel)
theorem lin_r20 : ∀ w ∈ wsL_law_r20, w ∈ lw_tbl := mem_ix [491, 592, 46, 593, 594, 596, 47, 597, 598, 600, 48, 601, 610, 602, 603, 604, 607, 49, 608, 611, 613, 50, 614, 854] (by decide +kernel)
theorem lin_r21 : ∀ w ∈ wsL_law_r21, w ∈ lw_tbl := mem_ix [855, 856, 857, 672, 674, 675, 676, 677, 678, 673, 858, 860, 61, 861, 671, 862, 864, 62, 865, 866, 868, 63, 869, 870] (by decide +kernel)
theorem lin_r22 : ∀ w ∈ wsL_law_r22, w ∈ lw_tbl := mem_ix [872, 64, 873, 874, 876, 65, 877, 878, 880, 66, 881, 882, 884, 67, 885, 615, 616, 617, 618, 886, 887, 888, 889, 619] (by decide +kernel)
theorem lin_r23 : ∀ w ∈ wsL_law_r23, w ∈ lw_tbl := mem_ix [620, 621, 622, 625, 51, 626, 890, 891, 892, 893, 628, 629, 630, 631, 894, 895, 896, 897, 312, 313, 314, 315, 898, 899] (by decide +kernel)
theorem lin_r24 : ∀ w ∈ wsL_law_r24, w ∈ lw_tbl := mem_ix [900, 901, 317, 318, 319, 320, 324, 10, 325, 332, 12, 333, 340, 14, 341, 902, 903, 904, 905, 474, 475, 476, 477, 480] (by decide +kernel)
theorem lin_r25 : ∀ w ∈ wsL_law_r25, w ∈ lw_tbl := mem_ix [27, 481, 906, 907, 908, 909, 483, 484, 485, 486, 910, 911, 912, 913, 632, 633, 634, 635, 914, 915, 916, 917] (by decide +kernel)
theorem lin_X5 : ∀ w ∈ wsX50, w ∈ lw_tbl := mem_ix [233, 235, 237, 239, 241, 243, 245, 247] (by decide +kernel)
theorem lin_X6 : ∀ w ∈ wsX60, w ∈ lw_tbl := mem_ix [682, 684, 686, 688, 690, 692, 694, 696, 698, 700, 702, 704, 706, 708, 710, 712, 714, 716, 718, 720, 722, 724, 726, 728, 730, 732, 734, 736, 738, 740, 742, 744, 746, 748, 750, 752, 754, 756, 758, 760] (by decide +kernel)
theorem lin_X4 : ∀ w ∈ wsX40, w ∈ lw_tbl := mem_ix [109, 111, 113, 115, 117, 119, 121, 123] (by decide +kernel)
theorem lin_X2 : ∀ w ∈ wsX20, w ∈ lw_tbl := mem_ix [139, 141, 143, 145] (by decide +kernel)
theorem lin_X0 : ∀ w ∈ wsX00, w ∈ lw_tbl := mem_ix [168, 170, 172, 174, 176, 178] (by decide +kernel)
theorem lin_X1 : ∀ w ∈ wsX10, w ∈ lw_tbl := mem_ix [204, 206, 208, 210, 212, 214, 216, 218, 220, 222] (by decide +kernel)
theorem lin_X3 : ∀ w ∈ wsX30, w ∈ lw_tbl := mem_ix [369, 371, 373, 375, 377, 379, 381, 383, 385, 387] (by decide +kernel)
theorem wsL_law_in : ∀ w ∈ wsL_law, w ∈ lw_tbl := List.forall_mem_append.mpr ⟨List.forall_mem_append.mpr ⟨List.forall_mem_append.mpr ⟨List.forall_mem_append.mpr ⟨List.forall_mem_append.mpr ⟨List.forall_mem_append.mpr ⟨List.forall_mem_append.mpr ⟨List.forall_mem_append.mpr ⟨List.forall_mem_append.mpr ⟨lin_r1, List.forall_mem_append.mpr ⟨lin_r2, List.forall_mem_append.mpr ⟨lin_r3, List.forall_mem_append.mpr ⟨lin_r4, List.forall_mem_append.mpr ⟨lin_r5, List.forall_mem_append.mpr ⟨lin_r6, List.forall_mem_append.mpr ⟨lin_r7, List.forall_mem_append.mpr ⟨lin_r8, List.forall_mem_append.mpr ⟨lin_r9, List.forall_mem_append.mpr ⟨lin_r10, List.forall_mem_append.mpr ⟨lin_r11, List.forall_mem_append.mpr ⟨lin_r12, List.forall_mem_append.mpr ⟨lin_r13, List.forall_mem_append.mpr ⟨lin_r14, List.forall_mem_append.mpr ⟨lin_r15, List.forall_mem_append.mpr ⟨lin_r16, List.forall_mem_append.mpr ⟨lin_r17, List.forall_mem_append.mpr ⟨lin_r18, List.forall_mem_append.mpr ⟨lin_r19, List.forall_mem_append.mpr ⟨lin_r20, List.forall_mem_append.mpr ⟨lin_r21, List.forall_mem_append.mpr ⟨lin_r22, List.forall_mem_append.mpr ⟨lin_r23, List.forall_mem_append.mpr ⟨lin_r24, lin_r25⟩⟩⟩⟩⟩⟩⟩⟩⟩⟩⟩⟩⟩⟩⟩⟩⟩⟩⟩⟩⟩⟩⟩⟩, lin_X5⟩, lin_X6⟩, lin_X4⟩, lin_X2⟩, lin_X0⟩, lin_X1⟩, lin_X3⟩, fun _ h => absurd h List.not_mem_nil⟩
theorem nest_in0 : ∀ w ∈ (nestW.drop 0).take 24, w ∈ lw_tbl := mem_ix [91, 104, 106, 108, 130, 138, 153, 161, 163, 165, 167, 183, 191, 193, 195, 197, 199, 201, 203, 257, 265, 269, 278, 308] (by decide +kernel)
theorem nest_in1 : ∀ w ∈ (nestW.drop 24).take 24, w ∈ lw_tbl := mem_ix [316, 321, 322, 326, 330, 334, 338, 347, 353, 357, 359, 361, 363, 365, 367, 368, 402, 418, 422, 426, 427, 431, 443, 445] (by decide +kernel)
theorem nest_in2 : ∀ w ∈ (nestW.drop 48).take 24, w ∈ lw_tbl := mem_ix [454, 455, 478, 482, 487, 488, 500, 504, 505, 531, 535, 543, 556, 560, 561, 565, 573, 590, 605, 609, 623, 627] (by decide +kernel)
theorem nest_in : ∀ w ∈ nestW, w ∈ lw_tbl := by
  intro w hw
  have h0 : nestW = (nestW.drop 0).take 24 ++ ((nestW.drop 24).take 24 ++ (nestW.drop 48).take 24) := by rfl
  rw [h0] at hw
  rcases List.mem_append.mp hw with h | h
  · exact nest_in0 w h
  · rcases List.mem_append.mp h with h | h
    · exact nest_in1 w h
    · exact nest_in2 w h
