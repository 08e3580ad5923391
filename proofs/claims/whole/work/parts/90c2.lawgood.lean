theorem goodIn_cn {big a : List Cond} {c : Cond} (hc : GoodIn big [c]) (ha : GoodIn big a) : GoodIn big (c :: a) := fun w h => (List.mem_cons.mp h).elim (fun e => hc w (List.mem_cons.mpr (Or.inl e))) (ha w)
set_option maxRecDepth 20000 in
theorem ggL_law_X7_digest_c : GoodIn wsL_law [.code yX7_digest cX7_digest 4 (some .long)] := goodIn_r _ [900] (by decide +kernel) (by decide +kernel)
set_option maxRecDepth 20000 in
theorem ggL_law_X7_digest_wsX7_digest_r1 : GoodIn wsL_law wsX7_digest_r1 := goodIn_r _ [901, 902, 869, 870, 2, 871, 24, 872, 210, 28, 873, 193, 20, 37, 553, 554, 555, 23, 556, 209, 557, 207, 558, 208] (by decide +kernel) (by decide +kernel)
set_option maxRecDepth 20000 in
theorem ggL_law_X7_digest_wsX7_digest_r2 : GoodIn wsL_law wsX7_digest_r2 := goodIn_r _ [211, 212, 213, 201, 63, 202, 66, 67, 214, 215, 216, 217, 874, 875, 876, 877, 878, 388, 389, 390, 27, 391, 192, 392] (by decide +kernel) (by decide +kernel)
set_option maxRecDepth 20000 in
theorem ggL_law_X7_digest_wsX7_digest_r3 : GoodIn wsL_law wsX7_digest_r3 := goodIn_r _ [190, 393, 191, 194, 195, 196, 197, 198, 199, 200, 203, 204, 205, 879, 880, 881, 882, 883, 884, 395, 396, 397, 290, 291] (by decide +kernel) (by decide +kernel)
set_option maxRecDepth 20000 in
theorem ggL_law_X7_digest_wsX7_digest_r4 : GoodIn wsL_law wsX7_digest_r4 := goodIn_r _ [292, 19, 293, 56, 294, 57, 885, 886, 887, 888, 31, 903, 904, 905, 906, 907, 184, 185, 186, 153, 154, 155, 156, 187] (by decide +kernel) (by decide +kernel)
set_option maxRecDepth 20000 in
theorem ggL_law_X7_digest_wsX7_digest_r5 : GoodIn wsL_law wsX7_digest_r5 := goodIn_r _ [188, 189, 206, 908, 241, 242, 243, 244, 245, 246, 247, 115, 116, 117, 248, 249, 250, 251, 252, 253, 254, 255, 14, 256] (by decide +kernel) (by decide +kernel)
set_option maxRecDepth 20000 in
theorem ggL_law_X7_digest_wsX7_digest_r6 : GoodIn wsL_law wsX7_digest_r6 := goodIn_r _ [50, 46, 909, 328, 329, 330, 331, 332, 333, 334, 314, 315, 910, 911, 912, 913, 914, 304, 305, 306, 307, 308, 309, 310] (by decide +kernel) (by decide +kernel)
set_option maxRecDepth 20000 in
theorem ggL_law_X7_digest_wsX7_digest_r7 : GoodIn wsL_law wsX7_digest_r7 := goodIn_r _ [311, 312, 313, 915, 344, 345, 346, 347, 348, 349, 350, 351, 352, 353, 354, 355, 356, 357, 358, 359, 360, 124, 361, 362] (by decide +kernel) (by decide +kernel)
set_option maxRecDepth 20000 in
theorem ggL_law_X7_digest_wsX7_digest_r8 : GoodIn wsL_law wsX7_digest_r8 := goodIn_r _ [123, 125, 916, 917, 918, 919, 920, 372, 373, 374, 375, 110, 111, 112, 113, 114, 15, 16, 921, 278, 279, 280, 281, 922] (by decide +kernel) (by decide +kernel)
set_option maxRecDepth 20000 in
theorem ggL_law_X7_digest_wsX7_digest_r9 : GoodIn wsL_law wsX7_digest_r9 := goodIn_r _ [411, 412, 413, 414, 415, 416, 417, 418, 419, 420, 421, 422, 122, 423, 394, 923, 437, 438, 439, 440, 441, 442, 443, 444] (by decide +kernel) (by decide +kernel)
set_option maxRecDepth 20000 in
theorem ggL_law_X7_digest_wsX7_digest_r10 : GoodIn wsL_law wsX7_digest_r10 := goodIn_r _ [445, 446, 924, 759, 760, 761, 762, 763, 764, 765, 766, 767, 51, 768, 769, 770, 925, 474, 475, 476, 477, 478, 479, 480] (by decide +kernel) (by decide +kernel)
set_option maxRecDepth 20000 in
theorem ggL_law_X7_digest_wsX7_digest_r11 : GoodIn wsL_law wsX7_digest_r11 := goodIn_r _ [30, 481, 482, 483, 484, 485, 486, 487, 488, 489, 490, 491, 492, 493, 926, 514, 515, 516, 517, 518, 519, 520, 521, 522] (by decide +kernel) (by decide +kernel)
set_option maxRecDepth 20000 in
theorem ggL_law_X7_digest_wsX7_digest_r12 : GoodIn wsL_law wsX7_digest_r12 := goodIn_r _ [523, 524, 525, 526, 527, 528, 529, 530, 531, 532, 927, 546, 547, 548, 549, 550, 551, 552, 559, 560, 561, 562, 48, 563] (by decide +kernel) (by decide +kernel)
set_option maxRecDepth 20000 in
theorem ggL_law_X7_digest_wsX7_digest_r13 : GoodIn wsL_law wsX7_digest_r13 := goodIn_r _ [564, 565, 566, 567, 126, 127, 128, 129, 568, 569, 570, 571, 572, 573, 574, 575, 928, 599, 600, 601, 602, 603, 604, 605] (by decide +kernel) (by decide +kernel)
set_option maxRecDepth 20000 in
theorem ggL_law_X7_digest_wsX7_digest_r14 : GoodIn wsL_law wsX7_digest_r14 := goodIn_r _ [49, 606, 607, 608, 609, 610, 611, 612, 613, 614, 615, 616, 617, 618, 619, 620, 929, 642, 643, 644, 645, 646, 647, 648] (by decide +kernel) (by decide +kernel)
set_option maxRecDepth 20000 in
theorem ggL_law_X7_digest_wsX7_digest_r15 : GoodIn wsL_law wsX7_digest_r15 := goodIn_r _ [649, 650, 651, 652, 930, 717, 718, 719, 666, 667, 668, 669, 33, 720, 721, 722, 39, 723, 75, 76, 724, 725, 931, 735] (by decide +kernel) (by decide +kernel)
set_option maxRecDepth 20000 in
theorem ggL_law_X7_digest_wsX7_digest_r16 : GoodIn wsL_law wsX7_digest_r16 := goodIn_r _ [736, 737, 36, 738, 739, 740, 741, 742, 743, 744, 745, 665, 746, 747, 748, 749] (by decide +kernel) (by decide +kernel)
set_option maxRecDepth 20000 in
theorem ggL_law_X7_digest_wsX70 : GoodIn wsL_law wsX70 := goodIn_r _ [939, 940, 941, 942, 943, 944, 945, 946, 947, 948, 949] (by decide +kernel) (by decide +kernel)
set_option maxRecDepth 20000 in
theorem ggL_law_X7_digest_wsX00 : GoodIn wsL_law wsX00 := goodIn_r _ [983, 984] (by decide +kernel) (by decide +kernel)
set_option maxRecDepth 20000 in
theorem ggL_law_X7_digest_wsX10 : GoodIn wsL_law wsX10 := goodIn_r _ [981, 982] (by decide +kernel) (by decide +kernel)
set_option maxRecDepth 20000 in
theorem ggL_law_X7_digest_wsX40 : GoodIn wsL_law wsX40 := goodIn_r _ [979, 980] (by decide +kernel) (by decide +kernel)
set_option maxRecDepth 20000 in
theorem ggL_law_X7_digest_wsX50 : GoodIn wsL_law wsX50 := goodIn_r _ [974, 975, 976, 977, 978] (by decide +kernel) (by decide +kernel)
set_option maxRecDepth 20000 in
theorem ggL_law_X7_digest_wsX20 : GoodIn wsL_law wsX20 := goodIn_r _ [985, 986] (by decide +kernel) (by decide +kernel)
theorem ggL_law_X7_digest : GoodIn wsL_law wsX7_digest := goodIn_cn ggL_law_X7_digest_c (goodIn_app (goodIn_app (goodIn_app (goodIn_app (goodIn_app (goodIn_app (goodIn_app ggL_law_X7_digest_wsX7_digest_r1 (goodIn_app ggL_law_X7_digest_wsX7_digest_r2 (goodIn_app ggL_law_X7_digest_wsX7_digest_r3 (goodIn_app ggL_law_X7_digest_wsX7_digest_r4 (goodIn_app ggL_law_X7_digest_wsX7_digest_r5 (goodIn_app ggL_law_X7_digest_wsX7_digest_r6 (goodIn_app ggL_law_X7_digest_wsX7_digest_r7 (goodIn_app ggL_law_X7_digest_wsX7_digest_r8 (goodIn_app ggL_law_X7_digest_wsX7_digest_r9 (goodIn_app ggL_law_X7_digest_wsX7_digest_r10 (goodIn_app ggL_law_X7_digest_wsX7_digest_r11 (goodIn_app ggL_law_X7_digest_wsX7_digest_r12 (goodIn_app ggL_law_X7_digest_wsX7_digest_r13 (goodIn_app ggL_law_X7_digest_wsX7_digest_r14 (goodIn_app ggL_law_X7_digest_wsX7_digest_r15 ggL_law_X7_digest_wsX7_digest_r16))))))))))))))) ggL_law_X7_digest_wsX70) ggL_law_X7_digest_wsX00) ggL_law_X7_digest_wsX10) ggL_law_X7_digest_wsX40) ggL_law_X7_digest_wsX50) ggL_law_X7_digest_wsX20)
set_option maxRecDepth 20000 in
theorem gL_law_X7_digest : GoodIn wsL_law (wsV RL 160 RX7 yX7_digest wsX7_digest) := goodIn_app (goodIn_of _ (by decide +kernel)) ggL_law_X7_digest
set_option maxRecDepth 20000 in
theorem ggL_law_X8_digest_c : GoodIn wsL_law [.code yX8_digest cX8_digest 5 (some .long)] := goodIn_r _ [935] (by decide +kernel) (by decide +kernel)
set_option maxRecDepth 20000 in
theorem ggL_law_X8_digest_wsX8_digest_r1 : GoodIn wsL_law wsX8_digest_r1 := goodIn_r _ [936, 937, 938, 890, 891, 5, 892, 90, 715, 893, 894, 895, 896, 230, 92, 235, 93, 97, 406, 407, 408, 409, 222, 223] (by decide +kernel) (by decide +kernel)
set_option maxRecDepth 20000 in
theorem ggL_law_X8_digest_wsX8_digest_r2 : GoodIn wsL_law wsX8_digest_r2 := goodIn_r _ [224, 225, 226, 227, 228, 229, 91, 231, 232, 233, 234, 236, 237, 238, 239, 145, 146, 147, 299, 300, 301, 302, 87, 265] (by decide +kernel) (by decide +kernel)
set_option maxRecDepth 20000 in
theorem ggL_law_X8_digest_wsX8_digest_r3 : GoodIn wsL_law wsX8_digest_r3 := goodIn_r _ [266, 267, 268, 269, 270, 271, 272, 89, 273, 274, 275, 276, 88, 339, 340, 341, 342, 323, 324, 325, 326, 367, 368, 369] (by decide +kernel) (by decide +kernel)
set_option maxRecDepth 20000 in
theorem ggL_law_X8_digest_wsX8_digest_r4 : GoodIn wsL_law wsX8_digest_r4 := goodIn_r _ [370, 380, 381, 382, 383, 428, 429, 430, 431, 432, 433, 434, 435, 451, 452, 453, 454, 455, 456, 457, 458, 775, 776, 777] (by decide +kernel) (by decide +kernel)
set_option maxRecDepth 20000 in
theorem ggL_law_X8_digest_wsX8_digest_r5 : GoodIn wsL_law wsX8_digest_r5 := goodIn_r _ [778, 779, 780, 781, 782, 498, 499, 500, 501, 502, 503, 504, 505, 94, 506, 507, 508, 509, 510, 511, 512, 537, 538, 539] (by decide +kernel) (by decide +kernel)
set_option maxRecDepth 20000 in
theorem ggL_law_X8_digest_wsX8_digest_r6 : GoodIn wsL_law wsX8_digest_r6 := goodIn_r _ [540, 541, 542, 543, 544, 580, 581, 582, 583, 584, 585, 586, 587, 588, 589, 95, 590, 591, 592, 593, 594, 595, 596, 597] (by decide +kernel) (by decide +kernel)
set_option maxRecDepth 20000 in
theorem ggL_law_X8_digest_wsX8_digest_r7 : GoodIn wsL_law wsX8_digest_r7 := goodIn_r _ [625, 626, 627, 628, 629, 630, 631, 632, 96, 657, 658, 659, 660, 730, 731, 732, 733, 98, 99, 754, 755, 756, 757, 100] (by decide +kernel) (by decide +kernel)
set_option maxRecDepth 20000 in
theorem ggL_law_X8_digest_wsX80 : GoodIn wsL_law wsX80 := goodIn_r _ [950, 951, 952, 953, 954, 955, 956, 957, 958, 959, 960, 961, 962, 963, 964, 965, 966, 967, 968, 969, 970, 971, 972, 973] (by decide +kernel) (by decide +kernel)
theorem ggL_law_X8_digest : GoodIn wsL_law wsX8_digest := goodIn_cn ggL_law_X8_digest_c (goodIn_app (goodIn_app ggL_law_X8_digest_wsX8_digest_r1 (goodIn_app ggL_law_X8_digest_wsX8_digest_r2 (goodIn_app ggL_law_X8_digest_wsX8_digest_r3 (goodIn_app ggL_law_X8_digest_wsX8_digest_r4 (goodIn_app ggL_law_X8_digest_wsX8_digest_r5 (goodIn_app ggL_law_X8_digest_wsX8_digest_r6 ggL_law_X8_digest_wsX8_digest_r7)))))) ggL_law_X8_digest_wsX80)
set_option maxRecDepth 20000 in
theorem gL_law_X8_digest : GoodIn wsL_law (wsV RL 164 RX8 yX8_digest wsX8_digest) := goodIn_app (goodIn_of _ (by decide +kernel)) ggL_law_X8_digest
