/-! the words of the law: each has its place in the tables -/
theorem mem_pl {big ws : List Cond} (ps : List Nat) (h : ws.map some = ps.map (fun i => big[i]?)) : ∀ w ∈ ws, w ∈ big := fun w hw => by
  have h1 : some w ∈ ws.map some := List.mem_map.mpr ⟨w, hw, rfl⟩
  rw [h] at h1
  obtain ⟨i, -, hi⟩ := List.mem_map.mp h1
  exact List.mem_of_getElem? hi
set_option maxRecDepth 20000 in
theorem wl_r1 : ∀ w ∈ wsL_law_r1, w ∈ lw_tbl := mem_pl [64, 65, 49, 701, 702, 59, 1075, 66, 67, 68, 69, 70, 71, 72, 73, 50, 245, 90, 246, 92, 93, 51, 247, 112] (by decide +kernel)
set_option maxRecDepth 20000 in
theorem wl_r2 : ∀ w ∈ wsL_law_r2, w ∈ lw_tbl := mem_pl [113, 52, 248, 139, 140, 53, 249, 171, 172, 56, 250, 195, 196, 57, 251, 252, 228, 58, 75, 76, 77, 89, 78, 95] (by decide +kernel)
set_option maxRecDepth 20000 in
theorem wl_r3 : ∀ w ∈ wsL_law_r3, w ∈ lw_tbl := mem_pl [96, 97, 98, 100, 101, 102, 115, 116, 117, 119, 118, 120, 142, 143, 144, 147, 148, 149, 145, 152, 174, 175, 176, 177] (by decide +kernel)
set_option maxRecDepth 20000 in
theorem wl_r4 : ∀ w ∈ wsL_law_r4, w ∈ lw_tbl := mem_pl [179, 198, 199, 200, 201, 204, 207, 210, 230, 231, 232, 233, 234, 703, 704, 705, 706, 710, 711, 712, 713, 715, 716, 719] (by decide +kernel)
set_option maxRecDepth 20000 in
theorem wl_r5 : ∀ w ∈ wsL_law_r5, w ∈ lw_tbl := mem_pl [722, 823, 724, 728, 729, 730, 731, 707, 732, 733, 736, 737, 743, 744, 282, 283, 284, 285, 286, 287, 288, 289, 81, 290] (by decide +kernel)
set_option maxRecDepth 20000 in
theorem wl_r6 : ∀ w ∈ wsL_law_r6, w ∈ lw_tbl := mem_pl [291, 292, 293, 294, 295, 296, 824, 825, 826, 827, 828, 723, 297, 298, 299, 300, 301, 302, 303, 304, 829, 830, 831, 832] (by decide +kernel)
set_option maxRecDepth 20000 in
theorem wl_r7 : ∀ w ∈ wsL_law_r7, w ∈ lw_tbl := mem_pl [305, 306, 307, 308, 309, 310, 311, 312, 213, 214, 82, 79, 313, 314, 60, 315, 316, 318, 0, 319, 320, 322, 1, 323] (by decide +kernel)
set_option maxRecDepth 20000 in
theorem wl_r8 : ∀ w ∈ wsL_law_r8, w ∈ lw_tbl := mem_pl [324, 326, 2, 327, 328, 330, 3, 331, 333, 334, 335, 337, 4, 338, 340, 341, 342, 344, 5, 345, 833, 834, 835, 836] (by decide +kernel)
set_option maxRecDepth 20000 in
theorem wl_r9 : ∀ w ∈ wsL_law_r9, w ∈ lw_tbl := mem_pl [725, 837, 839, 22, 840, 727, 726, 841, 843, 23, 844, 845, 846, 847, 848, 849, 850, 346, 347, 348, 349, 83, 151, 181] (by decide +kernel)
set_option maxRecDepth 20000 in
theorem wl_r10 : ∀ w ∈ wsL_law_r10, w ∈ lw_tbl := mem_pl [253, 254, 255, 350, 351, 352, 353, 354, 355, 356, 357, 358, 359, 61, 360, 361, 362, 363, 851, 852, 853, 854, 708, 709] (by decide +kernel)
set_option maxRecDepth 20000 in
theorem wl_r11 : ∀ w ∈ wsL_law_r11, w ∈ lw_tbl := mem_pl [714, 717, 721, 855, 856, 857, 364, 365, 366, 367, 203, 206, 209, 212, 368, 369, 370, 371, 373, 6, 374, 375, 377, 7] (by decide +kernel)
set_option maxRecDepth 20000 in
theorem wl_r12 : ∀ w ∈ wsL_law_r12, w ∈ lw_tbl := mem_pl [378, 239, 379, 380, 62, 381, 858, 859, 860, 861, 862, 863, 864, 865, 867, 24, 868, 869, 870, 871, 382, 383, 384, 385] (by decide +kernel)
set_option maxRecDepth 20000 in
theorem wl_r13 : ∀ w ∈ wsL_law_r13, w ∈ lw_tbl := mem_pl [386, 872, 873, 874, 875, 387, 388, 389, 390, 394, 236, 391, 392, 393, 876, 877, 878, 879, 396, 397, 398, 399, 1076, 400] (by decide +kernel)
set_option maxRecDepth 20000 in
theorem wl_r14 : ∀ w ∈ wsL_law_r14, w ∈ lw_tbl := mem_pl [402, 8, 403, 404, 405, 406, 407, 408, 409, 410, 411, 412, 413, 414, 415, 55, 416, 1077, 417, 418, 63, 419, 420, 421] (by decide +kernel)
set_option maxRecDepth 20000 in
theorem wl_r15 : ∀ w ∈ wsL_law_r15, w ∈ lw_tbl := mem_pl [422, 423, 1078, 424, 425, 880, 881, 882, 883, 884, 886, 25, 887, 888, 890, 26, 891, 892, 893, 894, 895, 896, 897, 898] (by decide +kernel)
set_option maxRecDepth 20000 in
theorem wl_r16 : ∀ w ∈ wsL_law_r16, w ∈ lw_tbl := mem_pl [899, 900, 901, 902, 903, 904, 905, 906, 907, 909, 27, 910, 911, 913, 28, 914, 426, 427, 428, 429, 430, 431, 432, 433] (by decide +kernel)
set_option maxRecDepth 20000 in
theorem wl_r17 : ∀ w ∈ wsL_law_r17, w ∈ lw_tbl := mem_pl [434, 435, 437, 915, 916, 917, 918, 439, 440, 441, 442, 443, 444, 445, 919, 920, 921, 922, 923, 924, 925, 446, 447, 448] (by decide +kernel)
set_option maxRecDepth 20000 in
theorem wl_r18 : ∀ w ∈ wsL_law_r18, w ∈ lw_tbl := mem_pl [449, 450, 451, 452, 453, 455, 457, 9, 458, 459, 460, 461, 462, 208, 211, 205, 1079, 202, 463, 464, 465, 466, 467, 468] (by decide +kernel)
set_option maxRecDepth 20000 in
theorem wl_r19 : ∀ w ∈ wsL_law_r19, w ∈ lw_tbl := mem_pl [469, 470, 471, 472, 473, 474, 475, 476, 478, 10, 479, 480, 481, 482, 483, 484, 485, 486, 487, 488, 489, 490, 491, 492] (by decide +kernel)
set_option maxRecDepth 20000 in
theorem wl_r20 : ∀ w ∈ wsL_law_r20, w ∈ lw_tbl := mem_pl [494, 11, 495, 926, 927, 928, 929, 930, 931, 932, 933, 935, 29, 936, 937, 939, 30, 940, 496, 497, 498, 499, 941, 942] (by decide +kernel)
set_option maxRecDepth 20000 in
theorem wl_r21 : ∀ w ∈ wsL_law_r21, w ∈ lw_tbl := mem_pl [943, 944, 500, 501, 502, 503, 504, 505, 506, 507, 237, 508, 509, 510, 511, 512, 513, 945, 946, 947, 948, 514, 515, 516] (by decide +kernel)
set_option maxRecDepth 20000 in
theorem wl_r22 : ∀ w ∈ wsL_law_r22, w ∈ lw_tbl := mem_pl [517, 256, 125, 518, 519, 520, 521, 522, 122, 123, 99, 523, 525, 12, 526, 121, 124, 527, 528, 530, 13, 531, 532, 534] (by decide +kernel)
set_option maxRecDepth 20000 in
theorem wl_r23 : ∀ w ∈ wsL_law_r23, w ∈ lw_tbl := mem_pl [14, 535, 536, 538, 15, 539, 540, 541, 542, 543, 544, 546, 16, 547, 548, 550, 17, 551, 553, 949, 950, 951, 952, 718] (by decide +kernel)
set_option maxRecDepth 20000 in
theorem wl_r24 : ∀ w ∈ wsL_law_r24, w ∈ lw_tbl := mem_pl [735, 953, 955, 31, 956, 734, 957, 959, 32, 960, 961, 963, 33, 964, 554, 555, 556, 557, 558, 559, 560, 561, 563, 562] (by decide +kernel)
set_option maxRecDepth 20000 in
theorem wl_r25 : ∀ w ∈ wsL_law_r25, w ∈ lw_tbl := mem_pl [965, 966, 967, 968, 969, 971, 34, 972, 564, 565, 566, 567, 568, 569, 570, 571, 973, 974, 975, 976, 977, 979, 35, 980] (by decide +kernel)
set_option maxRecDepth 20000 in
theorem wl_r26 : ∀ w ∈ wsL_law_r26, w ∈ lw_tbl := mem_pl [572, 573, 574, 575, 576, 577, 578, 579, 580, 981, 982, 983, 984, 985, 987, 36, 988, 581, 582, 583, 584, 585, 586, 587] (by decide +kernel)
set_option maxRecDepth 20000 in
theorem wl_r27 : ∀ w ∈ wsL_law_r27, w ∈ lw_tbl := mem_pl [588, 150, 155, 589, 590, 591, 592, 235, 238, 154, 989, 990, 991, 992, 720, 593, 594, 595, 596, 597, 598, 599, 600, 601] (by decide +kernel)
set_option maxRecDepth 20000 in
theorem wl_r28 : ∀ w ∈ wsL_law_r28, w ∈ lw_tbl := mem_pl [602, 603, 604, 993, 994, 995, 996, 605, 606, 607, 608, 153, 609, 610, 611, 612, 613, 614, 615, 616, 617, 618, 619, 620] (by decide +kernel)
set_option maxRecDepth 20000 in
theorem wl_r29 : ∀ w ∈ wsL_law_r29, w ∈ lw_tbl := mem_pl [622, 18, 623, 625, 626, 627, 628, 629, 997, 998, 999, 1000, 1001, 1003, 37, 1004, 1005, 1007, 38, 1008, 1009, 1011, 39, 1012] (by decide +kernel)
set_option maxRecDepth 20000 in
theorem wl_r30 : ∀ w ∈ wsL_law_r30, w ∈ lw_tbl := mem_pl [630, 631, 632, 633, 634, 635, 636, 637, 638, 1013, 1014, 1015, 1016, 1017, 1019, 40, 1020, 639, 640, 641, 642, 649, 643, 644] (by decide +kernel)
set_option maxRecDepth 20000 in
theorem wl_r31 : ∀ w ∈ wsL_law_r31, w ∈ lw_tbl := mem_pl [645, 646, 647, 648, 650, 651, 652, 653, 654, 655, 656, 657, 659, 1021, 1022, 1023, 1024, 1025, 1027, 41, 1028, 738, 1029, 1031] (by decide +kernel)
set_option maxRecDepth 20000 in
theorem wl_r32 : ∀ w ∈ wsL_law_r32, w ∈ lw_tbl := mem_pl [42, 1032, 1033, 1035, 43, 1036, 1037, 1038, 1039, 1040, 1041, 1043, 44, 1044, 660, 661, 662, 663, 182, 183, 178, 180, 1045, 1046] (by decide +kernel)
set_option maxRecDepth 20000 in
theorem wl_r33 : ∀ w ∈ wsL_law_r33, w ∈ lw_tbl := mem_pl [1047, 1048, 739, 740, 741, 742, 664, 665, 666, 667, 1049, 1050, 1051, 1052, 668, 669, 670, 671, 672, 674, 19, 675, 676, 678] (by decide +kernel)
set_option maxRecDepth 20000 in
theorem wl_r34 : ∀ w ∈ wsL_law_r34, w ∈ lw_tbl := mem_pl [20, 679, 680, 1053, 1054, 1055, 1056, 1057, 1059, 45, 1060, 681, 682, 683, 684, 685, 80, 686, 687, 688, 689, 690, 691, 693] (by decide +kernel)
set_option maxRecDepth 20000 in
theorem wl_r35 : ∀ w ∈ wsL_law_r35, w ∈ lw_tbl := mem_pl [21, 694, 695, 696, 697, 698, 699, 700, 1061, 1062, 1063, 1064, 1065, 745, 1066, 1068, 46, 1069, 1070, 1071, 1073, 47, 1074] (by decide +kernel)
set_option maxRecDepth 20000 in
theorem inX9 : ∀ w ∈ wsX90, w ∈ lw_tbl := mem_pl [257, 259, 261, 263, 265, 267, 269, 271, 273, 275, 277, 279] (by decide +kernel)
set_option maxRecDepth 20000 in
theorem inX10 : ∀ w ∈ wsX100, w ∈ lw_tbl := mem_pl [746, 748, 750, 752, 754, 756, 758, 760, 762, 764, 766, 768, 770, 772, 774, 776, 778, 780, 782, 784, 786, 788, 790, 792, 794, 796, 798, 800, 802, 804, 806, 808, 810, 812, 814, 816, 818, 820] (by decide +kernel)
set_option maxRecDepth 20000 in
theorem inX4 : ∀ w ∈ wsX40, w ∈ lw_tbl := mem_pl [84, 86] (by decide +kernel)
set_option maxRecDepth 20000 in
theorem inX0 : ∀ w ∈ wsX00, w ∈ lw_tbl := mem_pl [103, 105, 107, 109] (by decide +kernel)
set_option maxRecDepth 20000 in
theorem inX6 : ∀ w ∈ wsX60, w ∈ lw_tbl := mem_pl [126, 128, 130, 132, 134, 136] (by decide +kernel)
set_option maxRecDepth 20000 in
theorem inX8 : ∀ w ∈ wsX80, w ∈ lw_tbl := mem_pl [156, 158, 160, 162, 164, 166, 168] (by decide +kernel)
set_option maxRecDepth 20000 in
theorem inX1 : ∀ w ∈ wsX10, w ∈ lw_tbl := mem_pl [184, 186, 188, 190, 192] (by decide +kernel)
set_option maxRecDepth 20000 in
theorem inX3 : ∀ w ∈ wsX30, w ∈ lw_tbl := mem_pl [215, 217, 219, 221, 223, 225] (by decide +kernel)
set_option maxRecDepth 20000 in
theorem inX5 : ∀ w ∈ wsX50, w ∈ lw_tbl := mem_pl [240, 242] (by decide +kernel)
set_option maxRecDepth 20000 in
theorem wsL_law_in : ∀ w ∈ wsL_law, w ∈ lw_tbl := (List.forall_mem_append.mpr ⟨(List.forall_mem_append.mpr ⟨(List.forall_mem_append.mpr ⟨(List.forall_mem_append.mpr ⟨(List.forall_mem_append.mpr ⟨(List.forall_mem_append.mpr ⟨(List.forall_mem_append.mpr ⟨(List.forall_mem_append.mpr ⟨(List.forall_mem_append.mpr ⟨(List.forall_mem_append.mpr ⟨(List.forall_mem_append.mpr ⟨wl_r1, (List.forall_mem_append.mpr ⟨wl_r2, (List.forall_mem_append.mpr ⟨wl_r3, (List.forall_mem_append.mpr ⟨wl_r4, (List.forall_mem_append.mpr ⟨wl_r5, (List.forall_mem_append.mpr ⟨wl_r6, (List.forall_mem_append.mpr ⟨wl_r7, (List.forall_mem_append.mpr ⟨wl_r8, (List.forall_mem_append.mpr ⟨wl_r9, (List.forall_mem_append.mpr ⟨wl_r10, (List.forall_mem_append.mpr ⟨wl_r11, (List.forall_mem_append.mpr ⟨wl_r12, (List.forall_mem_append.mpr ⟨wl_r13, (List.forall_mem_append.mpr ⟨wl_r14, (List.forall_mem_append.mpr ⟨wl_r15, (List.forall_mem_append.mpr ⟨wl_r16, (List.forall_mem_append.mpr ⟨wl_r17, (List.forall_mem_append.mpr ⟨wl_r18, (List.forall_mem_append.mpr ⟨wl_r19, (List.forall_mem_append.mpr ⟨wl_r20, (List.forall_mem_append.mpr ⟨wl_r21, (List.forall_mem_append.mpr ⟨wl_r22, (List.forall_mem_append.mpr ⟨wl_r23, (List.forall_mem_append.mpr ⟨wl_r24, (List.forall_mem_append.mpr ⟨wl_r25, (List.forall_mem_append.mpr ⟨wl_r26, (List.forall_mem_append.mpr ⟨wl_r27, (List.forall_mem_append.mpr ⟨wl_r28, (List.forall_mem_append.mpr ⟨wl_r29, (List.forall_mem_append.mpr ⟨wl_r30, (List.forall_mem_append.mpr ⟨wl_r31, (List.forall_mem_append.mpr ⟨wl_r32, (List.forall_mem_append.mpr ⟨wl_r33, (List.forall_mem_append.mpr ⟨wl_r34, wl_r35⟩)⟩)⟩)⟩)⟩)⟩)⟩)⟩)⟩)⟩)⟩)⟩)⟩)⟩)⟩)⟩)⟩)⟩)⟩)⟩)⟩)⟩)⟩)⟩)⟩)⟩)⟩)⟩)⟩)⟩)⟩)⟩)⟩)⟩), inX9⟩), inX10⟩), inX4⟩), inX0⟩), inX6⟩), inX8⟩), inX1⟩), inX3⟩), inX5⟩), fun _ h => absurd h List.not_mem_nil⟩)
