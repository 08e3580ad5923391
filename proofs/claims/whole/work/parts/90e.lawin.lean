theorem in_by {big : List Cond} (ws : List Cond) (ps : List Nat) (hp : ws = ps.filterMap (fun i => big[i]?)) : ∀ w ∈ ws, w ∈ big := by
  intro w hw
  rw [hp] at hw
  obtain ⟨i, -, hi⟩ := List.mem_filterMap.mp hw
  exact List.mem_of_getElem? hi
set_option maxRecDepth 20000 in
theorem li_wsL_law_r1 : ∀ w ∈ wsL_law_r1, w ∈ lw_tbl := in_by wsL_law_r1 [70, 71, 59, 702, 703, 67, 72, 73, 74, 75, 76, 77, 78, 79, 60, 187, 188, 106, 107, 61, 189, 119, 120, 63] (by decide +kernel)
set_option maxRecDepth 20000 in
theorem li_wsL_law_r2 : ∀ w ∈ wsL_law_r2, w ∈ lw_tbl := in_by wsL_law_r2 [190, 142, 143, 64, 191, 105, 192, 193, 151, 194, 153, 195, 196, 197, 155, 65, 169, 66, 80, 81, 82, 83, 87, 104] (by decide +kernel)
set_option maxRecDepth 20000 in
theorem li_wsL_law_r3 : ∀ w ∈ wsL_law_r3, w ∈ lw_tbl := in_by wsL_law_r3 [91, 92, 84, 88, 108, 109, 110, 111, 112, 113, 121, 122, 123, 124, 125, 62, 126, 127, 129, 128, 144, 145, 146, 147] (by decide +kernel)
set_option maxRecDepth 20000 in
theorem li_wsL_law_r4 : ∀ w ∈ wsL_law_r4, w ∈ lw_tbl := in_by wsL_law_r4 [157, 158, 159, 160, 162, 171, 172, 173, 174, 176, 178, 704, 705, 706, 707, 708, 709, 710, 711, 712, 714, 716, 717, 718] (by decide +kernel)
set_option maxRecDepth 20000 in
theorem li_wsL_law_r5 : ∀ w ∈ wsL_law_r5, w ∈ lw_tbl := in_by wsL_law_r5 [721, 722, 723, 724, 725, 726, 727, 728, 729, 730, 221, 222, 223, 224, 85, 225, 227, 0, 228, 229, 230, 231, 232, 233] (by decide +kernel)
set_option maxRecDepth 20000 in
theorem li_wsL_law_r6 : ∀ w ∈ wsL_law_r6, w ∈ lw_tbl := in_by wsL_law_r6 [234, 235, 240, 241, 68, 242, 236, 238, 1, 239, 243, 244, 245, 246, 247, 248, 249, 250, 781, 782, 783, 784, 785, 786] (by decide +kernel)
set_option maxRecDepth 20000 in
theorem li_wsL_law_r7 : ∀ w ∈ wsL_law_r7, w ∈ lw_tbl := in_by wsL_law_r7 [787, 788, 789, 790, 251, 252, 253, 254, 134, 255, 257, 2, 258, 259, 261, 262, 260, 264, 263, 791, 792, 793, 794, 265] (by decide +kernel)
set_option maxRecDepth 20000 in
theorem li_wsL_law_r8 : ∀ w ∈ wsL_law_r8, w ∈ lw_tbl := in_by wsL_law_r8 [266, 267, 268, 795, 796, 797, 798, 269, 270, 271, 272, 799, 800, 801, 802, 273, 274, 275, 276, 277, 279, 280, 281, 282] (by decide +kernel)
set_option maxRecDepth 20000 in
theorem li_wsL_law_r9 : ∀ w ∈ wsL_law_r9, w ∈ lw_tbl := in_by wsL_law_r9 [130, 131, 283, 285, 3, 286, 287, 288, 290, 291, 292, 293, 294, 295, 296, 297, 298, 132, 133, 299, 300, 301, 302, 303] (by decide +kernel)
set_option maxRecDepth 20000 in
theorem li_wsL_law_r10 : ∀ w ∈ wsL_law_r10, w ∈ lw_tbl := in_by wsL_law_r10 [304, 305, 803, 804, 805, 806, 807, 809, 21, 810, 811, 813, 22, 814, 713, 815, 817, 23, 818, 715, 819, 821, 24, 822] (by decide +kernel)
set_option maxRecDepth 20000 in
theorem li_wsL_law_r11 : ∀ w ∈ wsL_law_r11, w ∈ lw_tbl := in_by wsL_law_r11 [306, 307, 308, 309, 310, 311, 312, 313, 314, 315, 316, 317, 89, 318, 319, 320, 321, 823, 824, 825, 826, 827, 828, 829] (by decide +kernel)
set_option maxRecDepth 20000 in
theorem li_wsL_law_r12 : ∀ w ∈ wsL_law_r12, w ∈ lw_tbl := in_by wsL_law_r12 [830, 831, 833, 25, 834, 835, 837, 26, 838, 839, 841, 27, 842, 322, 323, 324, 325, 326, 843, 844, 845, 846, 327, 328] (by decide +kernel)
set_option maxRecDepth 20000 in
theorem li_wsL_law_r13 : ∀ w ∈ wsL_law_r13, w ∈ lw_tbl := in_by wsL_law_r13 [329, 330, 331, 332, 333, 334, 86, 847, 848, 849, 850, 851, 853, 28, 854, 335, 336, 337, 338, 339, 340, 341, 342, 343] (by decide +kernel)
set_option maxRecDepth 20000 in
theorem li_wsL_law_r14 : ∀ w ∈ wsL_law_r14, w ∈ lw_tbl := in_by wsL_law_r14 [344, 345, 346, 347, 855, 856, 857, 858, 859, 860, 861, 862, 864, 29, 865, 348, 349, 350, 351, 352, 353, 354, 355, 866] (by decide +kernel)
set_option maxRecDepth 20000 in
theorem li_wsL_law_r15 : ∀ w ∈ wsL_law_r15, w ∈ lw_tbl := in_by wsL_law_r15 [867, 868, 869, 870, 872, 30, 873, 356, 357, 358, 359, 360, 361, 362, 363, 364, 365, 366, 367, 368, 369, 370, 371, 372] (by decide +kernel)
set_option maxRecDepth 20000 in
theorem li_wsL_law_r16 : ∀ w ∈ wsL_law_r16, w ∈ lw_tbl := in_by wsL_law_r16 [373, 374, 375, 874, 875, 876, 877, 878, 880, 31, 881, 376, 377, 378, 379, 90, 882, 883, 884, 885, 886, 888, 32, 889] (by decide +kernel)
set_option maxRecDepth 20000 in
theorem li_wsL_law_r17 : ∀ w ∈ wsL_law_r17, w ∈ lw_tbl := in_by wsL_law_r17 [380, 381, 382, 383, 384, 385, 386, 387, 388, 1110, 389, 390, 391, 392, 890, 891, 892, 893, 894, 896, 33, 897, 898, 900] (by decide +kernel)
set_option maxRecDepth 20000 in
theorem li_wsL_law_r18 : ∀ w ∈ wsL_law_r18, w ∈ lw_tbl := in_by wsL_law_r18 [34, 901, 393, 394, 395, 396, 397, 399, 4, 400, 406, 401, 402, 403, 404, 405, 902, 903, 904, 905, 906, 908, 35, 909] (by decide +kernel)
set_option maxRecDepth 20000 in
theorem li_wsL_law_r19 : ∀ w ∈ wsL_law_r19, w ∈ lw_tbl := in_by wsL_law_r19 [910, 912, 36, 913, 407, 408, 409, 410, 411, 412, 413, 414, 415, 416, 417, 914, 915, 916, 917, 918, 920, 37, 921, 922] (by decide +kernel)
set_option maxRecDepth 20000 in
theorem li_wsL_law_r20 : ∀ w ∈ wsL_law_r20, w ∈ lw_tbl := in_by wsL_law_r20 [924, 38, 925, 418, 419, 420, 421, 422, 423, 424, 926, 927, 928, 929, 930, 931, 932, 425, 426, 427, 428, 429, 431, 5] (by decide +kernel)
set_option maxRecDepth 20000 in
theorem li_wsL_law_r21 : ∀ w ∈ wsL_law_r21, w ∈ lw_tbl := in_by wsL_law_r21 [432, 433, 434, 435, 436, 437, 439, 6, 440, 441, 442, 443, 444, 445, 933, 934, 935, 936, 937, 939, 39, 940, 941, 943] (by decide +kernel)
set_option maxRecDepth 20000 in
theorem li_wsL_law_r22 : ∀ w ∈ wsL_law_r22, w ∈ lw_tbl := in_by wsL_law_r22 [40, 944, 945, 946, 947, 948, 950, 41, 951, 446, 447, 448, 449, 450, 451, 452, 453, 454, 456, 7, 457, 458, 459, 460] (by decide +kernel)
set_option maxRecDepth 20000 in
theorem li_wsL_law_r23 : ∀ w ∈ wsL_law_r23, w ∈ lw_tbl := in_by wsL_law_r23 [461, 462, 463, 464, 465, 952, 953, 954, 955, 956, 958, 42, 959, 960, 962, 43, 963, 466, 467, 468, 469, 470, 472, 8] (by decide +kernel)
set_option maxRecDepth 20000 in
theorem li_wsL_law_r24 : ∀ w ∈ wsL_law_r24, w ∈ lw_tbl := in_by wsL_law_r24 [473, 474, 475, 476, 477, 478, 1111, 479, 480, 481, 482, 483, 485, 9, 486, 487, 488, 489, 490, 491, 492, 493, 494, 495] (by decide +kernel)
set_option maxRecDepth 20000 in
theorem li_wsL_law_r25 : ∀ w ∈ wsL_law_r25, w ∈ lw_tbl := in_by wsL_law_r25 [964, 965, 966, 967, 968, 970, 44, 971, 719, 720, 972, 974, 45, 975, 976, 978, 46, 979, 980, 982, 47, 983, 496, 497] (by decide +kernel)
set_option maxRecDepth 20000 in
theorem li_wsL_law_r26 : ∀ w ∈ wsL_law_r26, w ∈ lw_tbl := in_by wsL_law_r26 [498, 499, 500, 501, 502, 503, 505, 504, 506, 507, 508, 509, 510, 511, 512, 513, 514, 515, 516, 517, 518, 984, 985, 986] (by decide +kernel)
set_option maxRecDepth 20000 in
theorem li_wsL_law_r27 : ∀ w ∈ wsL_law_r27, w ∈ lw_tbl := in_by wsL_law_r27 [987, 988, 990, 48, 991, 992, 994, 49, 995, 519, 520, 521, 522, 996, 997, 998, 999, 523, 524, 525, 526, 527, 529, 10] (by decide +kernel)
set_option maxRecDepth 20000 in
theorem li_wsL_law_r28 : ∀ w ∈ wsL_law_r28, w ∈ lw_tbl := in_by wsL_law_r28 [530, 531, 533, 11, 534, 1000, 1001, 1002, 1003, 1004, 1006, 50, 1007, 535, 536, 537, 538, 161, 539, 541, 12, 542, 1008, 1009] (by decide +kernel)
set_option maxRecDepth 20000 in
theorem li_wsL_law_r29 : ∀ w ∈ wsL_law_r29, w ∈ lw_tbl := in_by wsL_law_r29 [1010, 1011, 1012, 1013, 1014, 543, 544, 545, 546, 163, 547, 548, 549, 1015, 1016, 1017, 1018, 550, 551, 552, 553, 175, 177, 179] (by decide +kernel)
set_option maxRecDepth 20000 in
theorem li_wsL_law_r30 : ∀ w ∈ wsL_law_r30, w ∈ lw_tbl := in_by wsL_law_r30 [554, 556, 13, 557, 558, 560, 14, 561, 1019, 1020, 1021, 1022, 1023, 1024, 1025, 1026, 1028, 51, 1029, 731, 562, 563, 564, 565] (by decide +kernel)
set_option maxRecDepth 20000 in
theorem li_wsL_law_r31 : ∀ w ∈ wsL_law_r31, w ∈ lw_tbl := in_by wsL_law_r31 [566, 567, 568, 569, 571, 570, 1030, 1031, 1032, 1033, 1034, 1036, 52, 1037, 572, 573, 574, 575, 576, 578, 15, 579, 580, 582] (by decide +kernel)
set_option maxRecDepth 20000 in
theorem li_wsL_law_r32 : ∀ w ∈ wsL_law_r32, w ∈ lw_tbl := in_by wsL_law_r32 [16, 583, 584, 586, 17, 587, 1038, 1039, 1040, 1041, 1042, 1044, 53, 1045, 588, 589, 590, 591, 592, 597, 593, 594, 595, 596] (by decide +kernel)
set_option maxRecDepth 20000 in
theorem li_wsL_law_r33 : ∀ w ∈ wsL_law_r33, w ∈ lw_tbl := in_by wsL_law_r33 [598, 599, 600, 1046, 1047, 1048, 1049, 1050, 1052, 54, 1053, 1054, 1055, 1056, 1057, 1058, 1059, 1060, 1061, 601, 602, 603, 604, 605] (by decide +kernel)
set_option maxRecDepth 20000 in
theorem li_wsL_law_r34 : ∀ w ∈ wsL_law_r34, w ∈ lw_tbl := in_by wsL_law_r34 [606, 607, 608, 609, 610, 611, 1062, 1063, 1064, 1065, 612, 613, 614, 615, 1066, 1067, 1068, 1069, 616, 617, 618, 619, 620, 621] (by decide +kernel)
set_option maxRecDepth 20000 in
theorem li_wsL_law_r35 : ∀ w ∈ wsL_law_r35, w ∈ lw_tbl := in_by wsL_law_r35 [622, 623, 624, 625, 626, 627, 1070, 1071, 1072, 1073, 1074, 1076, 55, 1077, 1078, 1080, 56, 1081, 628, 629, 630, 631, 632, 1082] (by decide +kernel)
set_option maxRecDepth 20000 in
theorem li_wsL_law_r36 : ∀ w ∈ wsL_law_r36, w ∈ lw_tbl := in_by wsL_law_r36 [1083, 1084, 1085, 1086, 633, 634, 635, 636, 641, 643, 642, 69, 637, 638, 639, 640, 1087, 1088, 1089, 1090, 644, 645, 646, 647] (by decide +kernel)
set_option maxRecDepth 20000 in
theorem li_wsL_law_r37 : ∀ w ∈ wsL_law_r37, w ∈ lw_tbl := in_by wsL_law_r37 [1091, 1092, 1093, 1094, 648, 649, 650, 651, 135, 136, 652, 653, 654, 655, 656, 657, 658, 659, 660, 661, 662, 663, 665, 18] (by decide +kernel)
set_option maxRecDepth 20000 in
theorem li_wsL_law_r38 : ∀ w ∈ wsL_law_r38, w ∈ lw_tbl := in_by wsL_law_r38 [666, 1095, 1096, 1097, 1098, 1099, 1101, 57, 1102, 667, 668, 669, 670, 671, 672, 673, 674, 675, 676, 677, 678, 679, 680, 682] (by decide +kernel)
set_option maxRecDepth 20000 in
theorem li_wsL_law_r39 : ∀ w ∈ wsL_law_r39, w ∈ lw_tbl := in_by wsL_law_r39 [19, 683, 684, 685, 686, 688, 20, 689, 690, 691, 692, 693, 694, 695, 696, 697, 698, 699, 700, 701, 1103, 1104, 1105, 1106] (by decide +kernel)
set_option maxRecDepth 20000 in
theorem li_wsL_law_r40 : ∀ w ∈ wsL_law_r40, w ∈ lw_tbl := in_by wsL_law_r40 [1107, 1108, 1109] (by decide +kernel)
set_option maxRecDepth 20000 in
theorem li_wsX70 : ∀ w ∈ wsX70, w ∈ lw_tbl := in_by wsX70 [198, 200, 202, 204, 206, 208, 210, 212, 214, 216, 218] (by decide +kernel)
set_option maxRecDepth 20000 in
theorem li_wsX80 : ∀ w ∈ wsX80, w ∈ lw_tbl := in_by wsX80 [732, 734, 736, 738, 740, 742, 744, 746, 748, 750, 752, 754, 756, 758, 760, 762, 764, 766, 768, 770, 772, 774, 776, 778] (by decide +kernel)
set_option maxRecDepth 20000 in
theorem li_wsX50 : ∀ w ∈ wsX50, w ∈ lw_tbl := in_by wsX50 [93, 95, 97, 99, 101] (by decide +kernel)
set_option maxRecDepth 20000 in
theorem li_wsX40 : ∀ w ∈ wsX40, w ∈ lw_tbl := in_by wsX40 [114, 116] (by decide +kernel)
set_option maxRecDepth 20000 in
theorem li_wsX10 : ∀ w ∈ wsX10, w ∈ lw_tbl := in_by wsX10 [137, 139] (by decide +kernel)
set_option maxRecDepth 20000 in
theorem li_wsX00 : ∀ w ∈ wsX00, w ∈ lw_tbl := in_by wsX00 [148, 149] (by decide +kernel)
set_option maxRecDepth 20000 in
theorem li_wsX20 : ∀ w ∈ wsX20, w ∈ lw_tbl := in_by wsX20 [164, 166] (by decide +kernel)
set_option maxRecDepth 20000 in
theorem li_wsX30 : ∀ w ∈ wsX30, w ∈ lw_tbl := in_by wsX30 [180, 182, 184] (by decide +kernel)
theorem wsL_law_in : ∀ w ∈ wsL_law, w ∈ lw_tbl := List.forall_mem_append.mpr ⟨List.forall_mem_append.mpr ⟨List.forall_mem_append.mpr ⟨List.forall_mem_append.mpr ⟨List.forall_mem_append.mpr ⟨List.forall_mem_append.mpr ⟨List.forall_mem_append.mpr ⟨List.forall_mem_append.mpr ⟨List.forall_mem_append.mpr ⟨List.forall_mem_append.mpr ⟨li_wsL_law_r1, List.forall_mem_append.mpr ⟨li_wsL_law_r2, List.forall_mem_append.mpr ⟨li_wsL_law_r3, List.forall_mem_append.mpr ⟨li_wsL_law_r4, List.forall_mem_append.mpr ⟨li_wsL_law_r5, List.forall_mem_append.mpr ⟨li_wsL_law_r6, List.forall_mem_append.mpr ⟨li_wsL_law_r7, List.forall_mem_append.mpr ⟨li_wsL_law_r8, List.forall_mem_append.mpr ⟨li_wsL_law_r9, List.forall_mem_append.mpr ⟨li_wsL_law_r10, List.forall_mem_append.mpr ⟨li_wsL_law_r11, List.forall_mem_append.mpr ⟨li_wsL_law_r12, List.forall_mem_append.mpr ⟨li_wsL_law_r13, List.forall_mem_append.mpr ⟨li_wsL_law_r14, List.forall_mem_append.mpr ⟨li_wsL_law_r15, List.forall_mem_append.mpr ⟨li_wsL_law_r16, List.forall_mem_append.mpr ⟨li_wsL_law_r17, List.forall_mem_append.mpr ⟨li_wsL_law_r18, List.forall_mem_append.mpr ⟨li_wsL_law_r19, List.forall_mem_append.mpr ⟨li_wsL_law_r20, List.forall_mem_append.mpr ⟨li_wsL_law_r21, List.forall_mem_append.mpr ⟨li_wsL_law_r22, List.forall_mem_append.mpr ⟨li_wsL_law_r23, List.forall_mem_append.mpr ⟨li_wsL_law_r24, List.forall_mem_append.mpr ⟨li_wsL_law_r25, List.forall_mem_append.mpr ⟨li_wsL_law_r26, List.forall_mem_append.mpr ⟨li_wsL_law_r27, List.forall_mem_append.mpr ⟨li_wsL_law_r28, List.forall_mem_append.mpr ⟨li_wsL_law_r29, List.forall_mem_append.mpr ⟨li_wsL_law_r30, List.forall_mem_append.mpr ⟨li_wsL_law_r31, List.forall_mem_append.mpr ⟨li_wsL_law_r32, List.forall_mem_append.mpr ⟨li_wsL_law_r33, List.forall_mem_append.mpr ⟨li_wsL_law_r34, List.forall_mem_append.mpr ⟨li_wsL_law_r35, List.forall_mem_append.mpr ⟨li_wsL_law_r36, List.forall_mem_append.mpr ⟨li_wsL_law_r37, List.forall_mem_append.mpr ⟨li_wsL_law_r38, List.forall_mem_append.mpr ⟨li_wsL_law_r39, li_wsL_law_r40⟩⟩⟩⟩⟩⟩⟩⟩⟩⟩⟩⟩⟩⟩⟩⟩⟩⟩⟩⟩⟩⟩⟩⟩⟩⟩⟩⟩⟩⟩⟩⟩⟩⟩⟩⟩⟩⟩⟩, li_wsX70⟩, li_wsX80⟩, li_wsX50⟩, li_wsX40⟩, li_wsX10⟩, li_wsX00⟩, li_wsX20⟩, li_wsX30⟩, fun _ h => absurd h List.not_mem_nil⟩
