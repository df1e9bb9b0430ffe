set_option maxRecDepth 20000 in
theorem wi_L_law_r1 : ∀ w ∈ wsL_law_r1, w ∈ lw_tbl := fun w h => (goodIn_r (big := lw_tbl) wsL_law_r1 [54, 55, 42, 657, 658, 52, 56, 57, 58, 59, 60, 61, 62, 63, 43, 290, 76, 77, 44, 291, 95, 96, 45, 292] (by decide +kernel) (by decide +kernel) w h).1
set_option maxRecDepth 20000 in
theorem wi_L_law_r2 : ∀ w ∈ wsL_law_r2, w ∈ lw_tbl := fun w h => (goodIn_r (big := lw_tbl) wsL_law_r2 [112, 113, 46, 293, 146, 147, 47, 294, 295, 65, 66, 67, 75, 68, 79, 80, 81, 82, 83, 84, 85, 98, 99, 100] (by decide +kernel) (by decide +kernel) w h).1
set_option maxRecDepth 20000 in
theorem wi_L_law_r3 : ∀ w ∈ wsL_law_r3, w ∈ lw_tbl := fun w h => (goodIn_r (big := lw_tbl) wsL_law_r3 [101, 102, 111, 103, 114, 115, 116, 117, 120, 121, 122, 118, 119, 148, 149, 150, 151, 152, 252, 154, 155, 48, 253, 173] (by decide +kernel) (by decide +kernel) w h).1
set_option maxRecDepth 20000 in
theorem wi_L_law_r4 : ∀ w ∈ wsL_law_r4, w ∈ lw_tbl := fun w h => (goodIn_r (big := lw_tbl) wsL_law_r4 [174, 49, 254, 194, 195, 50, 255, 250, 251, 211, 51, 157, 158, 159, 160, 161, 176, 177, 178, 179, 197, 198, 199, 200] (by decide +kernel) (by decide +kernel) w h).1
set_option maxRecDepth 20000 in
theorem wi_L_law_r5 : ∀ w ∈ wsL_law_r5, w ∈ lw_tbl := fun w h => (goodIn_r (big := lw_tbl) wsL_law_r5 [201, 212, 213, 214, 215, 216, 659, 660, 661, 662, 663, 665, 666, 667, 668, 669, 670, 671, 674, 675, 676, 680, 681, 682] (by decide +kernel) (by decide +kernel) w h).1
set_option maxRecDepth 20000 in
theorem wi_L_law_r6 : ∀ w ∈ wsL_law_r6, w ∈ lw_tbl := fun w h => (goodIn_r (big := lw_tbl) wsL_law_r6 [683, 684, 685, 688, 689, 691, 695, 664, 309, 310, 311, 312, 313, 314, 315, 316, 69, 317, 318, 319, 320, 321, 322, 323] (by decide +kernel) (by decide +kernel) w h).1
set_option maxRecDepth 20000 in
theorem wi_L_law_r7 : ∀ w ∈ wsL_law_r7, w ∈ lw_tbl := fun w h => (goodIn_r (big := lw_tbl) wsL_law_r7 [324, 126, 325, 326, 327, 328, 778, 779, 780, 781, 677, 672, 782, 783, 784, 329, 330, 331, 332, 333, 334, 335, 336, 337] (by decide +kernel) (by decide +kernel) w h).1
set_option maxRecDepth 20000 in
theorem wi_L_law_r8 : ∀ w ∈ wsL_law_r8, w ∈ lw_tbl := fun w h => (goodIn_r (big := lw_tbl) wsL_law_r8 [339, 341, 342, 343, 344, 785, 786, 787, 788, 345, 346, 347, 348, 349, 350, 351, 352, 789, 790, 791, 792, 353, 354, 355] (by decide +kernel) (by decide +kernel) w h).1
set_option maxRecDepth 20000 in
theorem wi_L_law_r9 : ∀ w ∈ wsL_law_r9, w ∈ lw_tbl := fun w h => (goodIn_r (big := lw_tbl) wsL_law_r9 [356, 357, 358, 359, 360, 123, 124, 361, 363, 0, 364, 365, 366, 367, 368, 369, 370, 371, 372, 373, 374, 375, 53, 376] (by decide +kernel) (by decide +kernel) w h).1
set_option maxRecDepth 20000 in
theorem wi_L_law_r10 : ∀ w ∈ wsL_law_r10, w ∈ lw_tbl := fun w h => (goodIn_r (big := lw_tbl) wsL_law_r10 [377, 378, 379, 380, 382, 1, 383, 125, 384, 386, 2, 387, 388, 389, 390, 391, 392, 394, 3, 395, 396, 397, 398, 399] (by decide +kernel) (by decide +kernel) w h).1
set_option maxRecDepth 20000 in
theorem wi_L_law_r11 : ∀ w ∈ wsL_law_r11, w ∈ lw_tbl := fun w h => (goodIn_r (big := lw_tbl) wsL_law_r11 [400, 402, 4, 403, 404, 406, 5, 407, 408, 410, 6, 411, 412, 413, 414, 415, 416, 417, 418, 419, 420, 421, 422, 423] (by decide +kernel) (by decide +kernel) w h).1
set_option maxRecDepth 20000 in
theorem wi_L_law_r12 : ∀ w ∈ wsL_law_r12, w ∈ lw_tbl := fun w h => (goodIn_r (big := lw_tbl) wsL_law_r12 [256, 257, 258, 259, 260, 261, 262, 424, 425, 426, 427, 227, 229, 231, 428, 429, 430, 431, 218, 220, 222, 225, 432, 433] (by decide +kernel) (by decide +kernel) w h).1
set_option maxRecDepth 20000 in
theorem wi_L_law_r13 : ∀ w ∈ wsL_law_r13, w ∈ lw_tbl := fun w h => (goodIn_r (big := lw_tbl) wsL_law_r13 [434, 435, 164, 162, 436, 437, 438, 439, 180, 182, 183, 440, 441, 442, 443, 202, 444, 445, 446, 447, 825, 826, 827, 828] (by decide +kernel) (by decide +kernel) w h).1
set_option maxRecDepth 20000 in
theorem wi_L_law_r14 : ∀ w ∈ wsL_law_r14, w ∈ lw_tbl := fun w h => (goodIn_r (big := lw_tbl) wsL_law_r14 [678, 679, 686, 687, 690, 692, 693, 694, 696, 697, 698, 699, 700, 797, 799, 20, 800, 673, 801, 803, 21, 804, 805, 807] (by decide +kernel) (by decide +kernel) w h).1
set_option maxRecDepth 20000 in
theorem wi_L_law_r15 : ∀ w ∈ wsL_law_r15, w ∈ lw_tbl := fun w h => (goodIn_r (big := lw_tbl) wsL_law_r15 [22, 808, 809, 811, 23, 812, 813, 815, 24, 816, 817, 819, 25, 820, 821, 823, 26, 824, 448, 449, 450, 451, 452, 454] (by decide +kernel) (by decide +kernel) w h).1
set_option maxRecDepth 20000 in
theorem wi_L_law_r16 : ∀ w ∈ wsL_law_r16, w ∈ lw_tbl := fun w h => (goodIn_r (big := lw_tbl) wsL_law_r16 [7, 455, 456, 457, 458, 459, 460, 461, 462, 463, 464, 466, 8, 467, 468, 470, 9, 471, 472, 474, 10, 475, 476, 477] (by decide +kernel) (by decide +kernel) w h).1
set_option maxRecDepth 20000 in
theorem wi_L_law_r17 : ∀ w ∈ wsL_law_r17, w ∈ lw_tbl := fun w h => (goodIn_r (big := lw_tbl) wsL_law_r17 [478, 479, 480, 481, 483, 11, 484, 485, 486, 487, 488, 489, 491, 12, 492, 493, 494, 495, 496, 497, 499, 13, 500, 501] (by decide +kernel) (by decide +kernel) w h).1
set_option maxRecDepth 20000 in
theorem wi_L_law_r18 : ∀ w ∈ wsL_law_r18, w ∈ lw_tbl := fun w h => (goodIn_r (big := lw_tbl) wsL_law_r18 [502, 503, 504, 505, 506, 507, 508, 509, 510, 511, 512, 513, 514, 515, 516, 517, 518, 520, 14, 521, 522, 523, 524, 525] (by decide +kernel) (by decide +kernel) w h).1
set_option maxRecDepth 20000 in
theorem wi_L_law_r19 : ∀ w ∈ wsL_law_r19, w ∈ lw_tbl := fun w h => (goodIn_r (big := lw_tbl) wsL_law_r19 [526, 528, 15, 529, 530, 531, 532, 533, 534, 536, 16, 537, 538, 539, 540, 541, 542, 543, 544, 545, 546, 547, 548, 549] (by decide +kernel) (by decide +kernel) w h).1
set_option maxRecDepth 20000 in
theorem wi_L_law_r20 : ∀ w ∈ wsL_law_r20, w ∈ lw_tbl := fun w h => (goodIn_r (big := lw_tbl) wsL_law_r20 [550, 551, 553, 17, 554, 555, 556, 557, 558, 559, 561, 18, 562, 829, 830, 831, 832, 833, 835, 27, 836, 837, 839, 28] (by decide +kernel) (by decide +kernel) w h).1
set_option maxRecDepth 20000 in
theorem wi_L_law_r21 : ∀ w ∈ wsL_law_r21, w ∈ lw_tbl := fun w h => (goodIn_r (big := lw_tbl) wsL_law_r21 [840, 841, 843, 29, 844, 845, 847, 30, 848, 849, 851, 31, 852, 853, 855, 32, 856, 857, 859, 33, 860, 861, 863, 34] (by decide +kernel) (by decide +kernel) w h).1
set_option maxRecDepth 20000 in
theorem wi_L_law_r22 : ∀ w ∈ wsL_law_r22, w ∈ lw_tbl := fun w h => (goodIn_r (big := lw_tbl) wsL_law_r22 [864, 865, 867, 35, 868, 869, 871, 36, 872, 873, 875, 37, 876, 877, 879, 38, 880, 563, 564, 565, 566, 567, 568, 569] (by decide +kernel) (by decide +kernel) w h).1
set_option maxRecDepth 20000 in
theorem wi_L_law_r23 : ∀ w ∈ wsL_law_r23, w ∈ lw_tbl := fun w h => (goodIn_r (big := lw_tbl) wsL_law_r23 [570, 571, 573, 19, 574, 575, 881, 882, 883, 884, 885, 887, 39, 888, 576, 577, 578, 579, 580, 581, 582, 583, 889, 890] (by decide +kernel) (by decide +kernel) w h).1
set_option maxRecDepth 20000 in
theorem wi_L_law_r24 : ∀ w ∈ wsL_law_r24, w ∈ lw_tbl := fun w h => (goodIn_r (big := lw_tbl) wsL_law_r24 [891, 892, 584, 585, 586, 587, 588, 589, 590, 591, 893, 894, 895, 896, 592, 593, 594, 595, 596, 597, 598, 599, 600, 601] (by decide +kernel) (by decide +kernel) w h).1
set_option maxRecDepth 20000 in
theorem wi_L_law_r25 : ∀ w ∈ wsL_law_r25, w ∈ lw_tbl := fun w h => (goodIn_r (big := lw_tbl) wsL_law_r25 [602, 603, 604, 605, 606, 607, 897, 898, 899, 900, 901, 903, 40, 904, 608, 609, 610, 611, 612, 613, 614, 615, 616, 617] (by decide +kernel) (by decide +kernel) w h).1
set_option maxRecDepth 20000 in
theorem wi_L_law_r26 : ∀ w ∈ wsL_law_r26, w ∈ lw_tbl := fun w h => (goodIn_r (big := lw_tbl) wsL_law_r26 [618, 619, 620, 905, 906, 907, 908, 621, 622, 623, 624, 625, 626, 627, 628, 629, 630, 631, 632, 909, 910, 911, 912, 633] (by decide +kernel) (by decide +kernel) w h).1
set_option maxRecDepth 20000 in
theorem wi_L_law_r27 : ∀ w ∈ wsL_law_r27, w ∈ lw_tbl := fun w h => (goodIn_r (big := lw_tbl) wsL_law_r27 [634, 635, 636, 793, 794, 795, 796, 637, 638, 639, 640, 641, 642, 643, 644, 913, 914, 915, 916, 645, 646, 647, 648, 649] (by decide +kernel) (by decide +kernel) w h).1
set_option maxRecDepth 20000 in
theorem wi_L_law_r28 : ∀ w ∈ wsL_law_r28, w ∈ lw_tbl := fun w h => (goodIn_r (big := lw_tbl) wsL_law_r28 [650, 651, 652, 653, 654, 655, 656, 917, 918, 919, 920] (by decide +kernel) (by decide +kernel) w h).1
set_option maxRecDepth 20000 in
theorem wi_wsX90 : ∀ w ∈ wsX90, w ∈ lw_tbl := fun w h => (goodIn_r (big := lw_tbl) wsX90 [296, 298, 300, 302, 304, 306] (by decide +kernel) (by decide +kernel) w h).1
set_option maxRecDepth 20000 in
theorem wi_wsX100 : ∀ w ∈ wsX100, w ∈ lw_tbl := fun w h => (goodIn_r (big := lw_tbl) wsX100 [701, 703, 705, 707, 709, 711, 713, 715, 717, 719, 721, 723, 725, 727, 729, 731, 733, 735, 737, 739, 741, 743, 745, 747, 749, 751, 753, 755, 757, 759, 761, 763, 765, 767, 769, 771, 773, 775] (by decide +kernel) (by decide +kernel) w h).1
set_option maxRecDepth 20000 in
theorem wi_wsX70 : ∀ w ∈ wsX70, w ∈ lw_tbl := fun w h => (goodIn_r (big := lw_tbl) wsX70 [70, 72] (by decide +kernel) (by decide +kernel) w h).1
set_option maxRecDepth 20000 in
theorem wi_wsX50 : ∀ w ∈ wsX50, w ∈ lw_tbl := fun w h => (goodIn_r (big := lw_tbl) wsX50 [86, 88, 90, 92] (by decide +kernel) (by decide +kernel) w h).1
set_option maxRecDepth 20000 in
theorem wi_wsX30 : ∀ w ∈ wsX30, w ∈ lw_tbl := fun w h => (goodIn_r (big := lw_tbl) wsX30 [104, 106, 108] (by decide +kernel) (by decide +kernel) w h).1
set_option maxRecDepth 20000 in
theorem wi_wsX20 : ∀ w ∈ wsX20, w ∈ lw_tbl := fun w h => (goodIn_r (big := lw_tbl) wsX20 [127, 129, 131, 133, 135, 137, 139, 141, 143] (by decide +kernel) (by decide +kernel) w h).1
set_option maxRecDepth 20000 in
theorem wi_wsX60 : ∀ w ∈ wsX60, w ∈ lw_tbl := fun w h => (goodIn_r (big := lw_tbl) wsX60 [263, 265, 267, 269, 271, 273, 275, 277, 279, 281, 283, 285, 287] (by decide +kernel) (by decide +kernel) w h).1
set_option maxRecDepth 20000 in
theorem wi_wsX10 : ∀ w ∈ wsX10, w ∈ lw_tbl := fun w h => (goodIn_r (big := lw_tbl) wsX10 [166, 168, 170] (by decide +kernel) (by decide +kernel) w h).1
set_option maxRecDepth 20000 in
theorem wi_wsX40 : ∀ w ∈ wsX40, w ∈ lw_tbl := fun w h => (goodIn_r (big := lw_tbl) wsX40 [185, 187, 189, 191] (by decide +kernel) (by decide +kernel) w h).1
set_option maxRecDepth 20000 in
theorem wi_wsX00 : ∀ w ∈ wsX00, w ∈ lw_tbl := fun w h => (goodIn_r (big := lw_tbl) wsX00 [204, 206, 208] (by decide +kernel) (by decide +kernel) w h).1
set_option maxRecDepth 20000 in
theorem wi_wsX80 : ∀ w ∈ wsX80, w ∈ lw_tbl := fun w h => (goodIn_r (big := lw_tbl) wsX80 [233, 235, 237, 239, 241, 243, 245, 247] (by decide +kernel) (by decide +kernel) w h).1
theorem wsL_law_in : ∀ w ∈ wsL_law, w ∈ lw_tbl := List.forall_mem_append.mpr ⟨List.forall_mem_append.mpr ⟨List.forall_mem_append.mpr ⟨List.forall_mem_append.mpr ⟨List.forall_mem_append.mpr ⟨List.forall_mem_append.mpr ⟨List.forall_mem_append.mpr ⟨List.forall_mem_append.mpr ⟨List.forall_mem_append.mpr ⟨List.forall_mem_append.mpr ⟨List.forall_mem_append.mpr ⟨List.forall_mem_append.mpr ⟨List.forall_mem_append.mpr ⟨wi_L_law_r1, List.forall_mem_append.mpr ⟨wi_L_law_r2, List.forall_mem_append.mpr ⟨wi_L_law_r3, List.forall_mem_append.mpr ⟨wi_L_law_r4, List.forall_mem_append.mpr ⟨wi_L_law_r5, List.forall_mem_append.mpr ⟨wi_L_law_r6, List.forall_mem_append.mpr ⟨wi_L_law_r7, List.forall_mem_append.mpr ⟨wi_L_law_r8, List.forall_mem_append.mpr ⟨wi_L_law_r9, List.forall_mem_append.mpr ⟨wi_L_law_r10, List.forall_mem_append.mpr ⟨wi_L_law_r11, List.forall_mem_append.mpr ⟨wi_L_law_r12, List.forall_mem_append.mpr ⟨wi_L_law_r13, List.forall_mem_append.mpr ⟨wi_L_law_r14, List.forall_mem_append.mpr ⟨wi_L_law_r15, List.forall_mem_append.mpr ⟨wi_L_law_r16, List.forall_mem_append.mpr ⟨wi_L_law_r17, List.forall_mem_append.mpr ⟨wi_L_law_r18, List.forall_mem_append.mpr ⟨wi_L_law_r19, List.forall_mem_append.mpr ⟨wi_L_law_r20, List.forall_mem_append.mpr ⟨wi_L_law_r21, List.forall_mem_append.mpr ⟨wi_L_law_r22, List.forall_mem_append.mpr ⟨wi_L_law_r23, List.forall_mem_append.mpr ⟨wi_L_law_r24, List.forall_mem_append.mpr ⟨wi_L_law_r25, List.forall_mem_append.mpr ⟨wi_L_law_r26, List.forall_mem_append.mpr ⟨wi_L_law_r27, wi_L_law_r28⟩⟩⟩⟩⟩⟩⟩⟩⟩⟩⟩⟩⟩⟩⟩⟩⟩⟩⟩⟩⟩⟩⟩⟩⟩⟩⟩, wi_wsX90⟩, wi_wsX100⟩, wi_wsX70⟩, wi_wsX50⟩, wi_wsX30⟩, wi_wsX20⟩, wi_wsX60⟩, wi_wsX10⟩, wi_wsX40⟩, wi_wsX00⟩, wi_wsX80⟩, fun _ h => absurd h List.not_mem_nil⟩
theorem inX9 : ∀ w ∈ wsX90, w ∈ lw_tbl := wi_wsX90
theorem inX10 : ∀ w ∈ wsX100, w ∈ lw_tbl := wi_wsX100
theorem inX7 : ∀ w ∈ wsX70, w ∈ lw_tbl := wi_wsX70
theorem inX5 : ∀ w ∈ wsX50, w ∈ lw_tbl := wi_wsX50
theorem inX3 : ∀ w ∈ wsX30, w ∈ lw_tbl := wi_wsX30
theorem inX2 : ∀ w ∈ wsX20, w ∈ lw_tbl := wi_wsX20
theorem inX6 : ∀ w ∈ wsX60, w ∈ lw_tbl := wi_wsX60
theorem inX1 : ∀ w ∈ wsX10, w ∈ lw_tbl := wi_wsX10
theorem inX4 : ∀ w ∈ wsX40, w ∈ lw_tbl := wi_wsX40
theorem inX0 : ∀ w ∈ wsX00, w ∈ lw_tbl := wi_wsX00
theorem inX8 : ∀ w ∈ wsX80, w ∈ lw_tbl := wi_wsX80
theorem wi_nf : ∀ q ∈ pt_nf, Cond.fieldLinkNest q.1 q.2.1 q.2.2.1 q.2.2.2.1 q.2.2.2.2.1 q.2.2.2.2.2 ∈ lw_tbl := by
  intro q hq
  have h0 : pt_nf.map (fun q => Cond.fieldLinkNest q.1 q.2.1 q.2.2.1 q.2.2.2.1 q.2.2.2.2.1 q.2.2.2.2.2) = [163, 165, 181, 184, 203, 217, 219, 221, 223, 224, 226, 228, 230, 232].filterMap (fun i => lw_tbl[i]?) := by decide +kernel
  have h1 := List.mem_map_of_mem (f := fun q : String × Nat × String × String × String × String => Cond.fieldLinkNest q.1 q.2.1 q.2.2.1 q.2.2.2.1 q.2.2.2.2.1 q.2.2.2.2.2) hq
  rw [h0] at h1
  obtain ⟨i, -, hi⟩ := List.mem_filterMap.mp h1
  exact List.mem_of_getElem? hi
theorem wi_mn : ∀ q ∈ pt_mn, Cond.methodLinkNest q.1 q.2.1 q.2.2.1 q.2.2.2 ∈ lw_tbl := by
  intro q hq
  have h0 : pt_mn.map (fun q => Cond.methodLinkNest q.1 q.2.1 q.2.2.1 q.2.2.2) = [64, 78, 97, 156, 175, 196].filterMap (fun i => lw_tbl[i]?) := by decide +kernel
  have h1 := List.mem_map_of_mem (f := fun q : String × Nat × MethodName × String => Cond.methodLinkNest q.1 q.2.1 q.2.2.1 q.2.2.2) hq
  rw [h0] at h1
  obtain ⟨i, -, hi⟩ := List.mem_filterMap.mp h1
  exact List.mem_of_getElem? hi
theorem wi_ao : Cond.arrayOver (.object "PackThreads$Worker") ∈ lw_tbl := List.mem_of_getElem? (i := 153) (by decide +kernel)
theorem wi_LEAST : Cond.laysStatic "PackThreads$Settings" "LEAST" "[I" ∈ lw_tbl := List.mem_of_getElem? (i := 338) (by decide +kernel)
theorem wi_MOST : Cond.laysStatic "PackThreads$Settings" "MOST" "[I" ∈ lw_tbl := List.mem_of_getElem? (i := 340) (by decide +kernel)
theorem wi_iniS : Cond.initialized "PackThreads$Settings" ∈ lw_tbl := List.mem_of_getElem? (i := 44) (by decide +kernel)
theorem wi_instX0 : Cond.instantiable RX0 3 ∈ lw_tbl := List.mem_of_getElem? (i := 195) (by decide +kernel)
theorem wi_instX1 : Cond.instantiable RX1 3 ∈ lw_tbl := List.mem_of_getElem? (i := 155) (by decide +kernel)
theorem wi_instX2 : Cond.instantiable RX2 9 ∈ lw_tbl := List.mem_of_getElem? (i := 113) (by decide +kernel)
theorem wi_instX3 : Cond.instantiable RX3 3 ∈ lw_tbl := List.mem_of_getElem? (i := 96) (by decide +kernel)
theorem wi_instX4 : Cond.instantiable RX4 4 ∈ lw_tbl := List.mem_of_getElem? (i := 174) (by decide +kernel)
theorem wi_instX5 : Cond.instantiable RX5 4 ∈ lw_tbl := List.mem_of_getElem? (i := 77) (by decide +kernel)
theorem wi_instX6 : Cond.instantiable RX6 13 ∈ lw_tbl := List.mem_of_getElem? (i := 147) (by decide +kernel)
theorem wi_instX7 : Cond.instantiable RX7 2 ∈ lw_tbl := List.mem_of_getElem? (i := 63) (by decide +kernel)
theorem wi_instX8 : Cond.instantiable RX8 8 ∈ lw_tbl := List.mem_of_getElem? (i := 211) (by decide +kernel)
theorem wi_instX9 : Cond.instantiable RX9 6 ∈ lw_tbl := List.mem_of_getElem? (i := 55) (by decide +kernel)
theorem wi_instX10 : Cond.instantiable RX10 38 ∈ lw_tbl := List.mem_of_getElem? (i := 658) (by decide +kernel)
