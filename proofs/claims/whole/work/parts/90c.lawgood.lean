set_option maxRecDepth 20000 in
theorem ggL_law_X7_read : GoodIn wsL_law wsX7_read := goodIn_r _ [692, 693, 694, 695, 681, 696, 697, 698, 2, 699, 35, 115, 116, 117, 666, 667, 668, 669, 33, 700, 701, 702, 703, 37, 682, 683, 684, 987, 988, 989, 985, 986, 939, 940, 941, 942, 943, 944, 945, 946, 947, 948, 949] (by decide +kernel) (by decide +kernel)
set_option maxRecDepth 20000 in
theorem gL_law_X7_read : GoodIn wsL_law (wsV RL 114 RX7 yX7_read wsX7_read) := goodIn_app (goodIn_of _ (by decide +kernel)) ggL_law_X7_read
set_option maxRecDepth 20000 in
theorem ggL_law_X8_read : GoodIn wsL_law wsX8_read := goodIn_r _ [707, 101, 103, 104, 99, 708, 709, 5, 710, 145, 146, 147, 674, 675, 676, 711, 712, 713, 714, 715, 950, 951, 952, 953, 954, 955, 956, 957, 958, 959, 960, 961, 962, 963, 964, 965, 966, 967, 968, 969, 970, 971, 972, 973] (by decide +kernel) (by decide +kernel)
set_option maxRecDepth 20000 in
theorem gL_law_X8_read : GoodIn wsL_law (wsV RL 117 RX8 yX8_read wsX8_read) := goodIn_app (goodIn_of _ (by decide +kernel)) ggL_law_X8_read
set_option maxRecDepth 20000 in
theorem ggL_law_X7_crop : GoodIn wsL_law wsX7_crop := goodIn_r _ [719, 20, 666, 667, 668, 2, 669, 33, 115, 116, 117, 244, 245, 246, 247, 720, 721, 722, 39, 723, 75, 76, 724, 360, 124, 361, 725, 249, 250, 19, 251, 56, 252, 57, 253, 254, 255, 14, 256, 50, 46, 939, 940, 941, 942, 943, 944, 945, 946, 947, 948, 949, 985, 986, 979, 980, 974, 975, 976, 977, 978] (by decide +kernel) (by decide +kernel)
set_option maxRecDepth 20000 in
theorem gL_law_X7_crop : GoodIn wsL_law (wsV RL 118 RX7 yX7_crop wsX7_crop) := goodIn_app (goodIn_of _ (by decide +kernel)) ggL_law_X7_crop
set_option maxRecDepth 20000 in
theorem ggL_law_X8_crop : GoodIn wsL_law wsX8_crop := goodIn_r _ [729, 674, 675, 5, 676, 145, 146, 147, 261, 262, 263, 264, 730, 731, 732, 733, 98, 99, 265, 266, 267, 268, 269, 270, 271, 272, 89, 273, 274, 275, 276, 88, 87, 950, 951, 952, 953, 954, 955, 956, 957, 958, 959, 960, 961, 962, 963, 964, 965, 966, 967, 968, 969, 970, 971, 972, 973] (by decide +kernel) (by decide +kernel)
set_option maxRecDepth 20000 in
theorem gL_law_X8_crop : GoodIn wsL_law (wsV RL 121 RX8 yX8_crop wsX8_crop) := goodIn_app (goodIn_of _ (by decide +kernel)) ggL_law_X8_crop
set_option maxRecDepth 20000 in
theorem ggL_law_X7_planting : GoodIn wsL_law wsX7_planting := goodIn_r _ [737, 36, 244, 245, 2, 246, 247, 115, 116, 117, 738, 739, 740, 741, 418, 360, 124, 361, 742, 743, 744, 745, 665, 20, 666, 667, 668, 669, 33, 720, 721, 722, 39, 723, 75, 76, 724, 725, 249, 250, 19, 251, 56, 252, 57, 253, 254, 255, 14, 256, 50, 46, 746, 747, 748, 749, 939, 940, 941, 942, 943, 944, 945, 946, 947, 948, 949, 985, 986, 979, 980, 974, 975, 976, 977, 978] (by decide +kernel) (by decide +kernel)
set_option maxRecDepth 20000 in
theorem gL_law_X7_planting : GoodIn wsL_law (wsV RL 122 RX7 yX7_planting wsX7_planting) := goodIn_app (goodIn_of _ (by decide +kernel)) ggL_law_X7_planting
set_option maxRecDepth 20000 in
theorem ggL_law_X8_planting : GoodIn wsL_law wsX8_planting := goodIn_r _ [753, 261, 262, 5, 263, 264, 145, 146, 147, 754, 755, 756, 757, 100, 98, 730, 731, 732, 733, 99, 265, 266, 267, 268, 269, 270, 271, 272, 89, 273, 274, 275, 276, 88, 87, 950, 951, 952, 953, 954, 955, 956, 957, 958, 959, 960, 961, 962, 963, 964, 965, 966, 967, 968, 969, 970, 971, 972, 973] (by decide +kernel) (by decide +kernel)
set_option maxRecDepth 20000 in
theorem gL_law_X8_planting : GoodIn wsL_law (wsV RL 125 RX8 yX8_planting wsX8_planting) := goodIn_app (goodIn_of _ (by decide +kernel)) ggL_law_X8_planting
set_option maxRecDepth 20000 in
theorem ggL_law_X7_clouds : GoodIn wsL_law wsX7_clouds := goodIn_r _ [761, 762, 763, 111, 112, 113, 2, 114, 15, 16, 244, 245, 246, 247, 115, 116, 117, 764, 765, 766, 14, 767, 51, 423, 254, 255, 256, 50, 46, 768, 769, 770, 939, 940, 941, 942, 943, 944, 945, 946, 947, 948, 949, 974, 975, 976, 977, 978] (by decide +kernel) (by decide +kernel)
set_option maxRecDepth 20000 in
theorem gL_law_X7_clouds : GoodIn wsL_law (wsV RL 126 RX7 yX7_clouds wsX7_clouds) := goodIn_app (goodIn_of _ (by decide +kernel)) ggL_law_X7_clouds
set_option maxRecDepth 20000 in
theorem ggL_law_X8_clouds : GoodIn wsL_law wsX8_clouds := goodIn_r _ [774, 142, 143, 5, 144, 145, 146, 147, 261, 262, 263, 264, 775, 776, 777, 778, 779, 269, 270, 271, 272, 89, 273, 274, 275, 276, 88, 87, 780, 781, 782, 783, 784, 785, 786, 950, 951, 952, 953, 954, 955, 956, 957, 958, 959, 960, 961, 962, 963, 964, 965, 966, 967, 968, 969, 970, 971, 972, 973] (by decide +kernel) (by decide +kernel)
set_option maxRecDepth 20000 in
theorem gL_law_X8_clouds : GoodIn wsL_law (wsV RL 130 RX8 yX8_clouds wsX8_clouds) := goodIn_app (goodIn_of _ (by decide +kernel)) ggL_law_X8_clouds
set_option maxRecDepth 20000 in
theorem ggL_law_X7_sheet : GoodIn wsL_law wsX7_sheet := goodIn_r _ [790, 696, 697, 698, 2, 699, 35, 115, 116, 117, 791, 792, 793, 700, 701, 702, 703, 37, 794, 795, 796, 41, 797, 80, 81, 82, 939, 940, 941, 942, 943, 944, 945, 946, 947, 948, 949, 987, 988, 989] (by decide +kernel) (by decide +kernel)
set_option maxRecDepth 20000 in
theorem gL_law_X7_sheet : GoodIn wsL_law (wsV RL 131 RX7 yX7_sheet wsX7_sheet) := goodIn_app (goodIn_of _ (by decide +kernel)) ggL_law_X7_sheet
set_option maxRecDepth 20000 in
theorem ggL_law_X8_sheet : GoodIn wsL_law wsX8_sheet := goodIn_r _ [801, 101, 102, 103, 104, 708, 709, 5, 710, 145, 146, 147, 711, 712, 713, 714, 715, 950, 951, 952, 953, 954, 955, 956, 957, 958, 959, 960, 961, 962, 963, 964, 965, 966, 967, 968, 969, 970, 971, 972, 973] (by decide +kernel) (by decide +kernel)
set_option maxRecDepth 20000 in
theorem gL_law_X8_sheet : GoodIn wsL_law (wsV RL 134 RX8 yX8_sheet wsX8_sheet) := goodIn_app (goodIn_of _ (by decide +kernel)) ggL_law_X8_sheet
set_option maxRecDepth 20000 in
theorem ggL_law_X7_lose : GoodIn wsL_law wsX7_lose := goodIn_r _ [805, 693, 694, 696, 697, 698, 2, 699, 35, 115, 116, 117, 700, 701, 702, 703, 37, 987, 988, 989, 939, 940, 941, 942, 943, 944, 945, 946, 947, 948, 949] (by decide +kernel) (by decide +kernel)
set_option maxRecDepth 20000 in
theorem gL_law_X7_lose : GoodIn wsL_law (wsV RL 135 RX7 yX7_lose wsX7_lose) := goodIn_app (goodIn_of _ (by decide +kernel)) ggL_law_X7_lose
set_option maxRecDepth 20000 in
theorem ggL_law_X8_lose : GoodIn wsL_law wsX8_lose := goodIn_r _ [809, 101, 103, 708, 709, 5, 710, 145, 146, 147, 711, 712, 713, 714, 715, 950, 951, 952, 953, 954, 955, 956, 957, 958, 959, 960, 961, 962, 963, 964, 965, 966, 967, 968, 969, 970, 971, 972, 973] (by decide +kernel) (by decide +kernel)
set_option maxRecDepth 20000 in
theorem gL_law_X8_lose : GoodIn wsL_law (wsV RL 138 RX8 yX8_lose wsX8_lose) := goodIn_app (goodIn_of _ (by decide +kernel)) ggL_law_X8_lose
set_option maxRecDepth 20000 in
theorem ggL_law_X7_put : GoodIn wsL_law wsX7_put := goodIn_r _ [813, 695, 696, 697, 698, 2, 699, 35, 115, 116, 117, 791, 792, 793, 814, 815, 816, 41, 817, 80, 81, 700, 701, 702, 703, 37, 818, 819, 820, 821, 987, 988, 989, 939, 940, 941, 942, 943, 944, 945, 946, 947, 948, 949] (by decide +kernel) (by decide +kernel)
set_option maxRecDepth 20000 in
theorem gL_law_X7_put : GoodIn wsL_law (wsV RL 139 RX7 yX7_put wsX7_put) := goodIn_app (goodIn_of _ (by decide +kernel)) ggL_law_X7_put
set_option maxRecDepth 20000 in
theorem ggL_law_X8_put : GoodIn wsL_law wsX8_put := goodIn_r _ [825, 708, 709, 5, 710, 145, 146, 147, 826, 827, 828, 829, 101, 102, 103, 711, 712, 713, 714, 715, 830, 831, 832, 833, 104, 950, 951, 952, 953, 954, 955, 956, 957, 958, 959, 960, 961, 962, 963, 964, 965, 966, 967, 968, 969, 970, 971, 972, 973] (by decide +kernel) (by decide +kernel)
set_option maxRecDepth 20000 in
theorem gL_law_X8_put : GoodIn wsL_law (wsV RL 142 RX8 yX8_put wsX8_put) := goodIn_app (goodIn_of _ (by decide +kernel)) ggL_law_X8_put
set_option maxRecDepth 20000 in
theorem ggL_law_X7_get : GoodIn wsL_law wsX7_get := goodIn_r _ [837, 838, 695, 696, 697, 698, 2, 699, 35, 115, 116, 117, 791, 792, 793, 814, 815, 816, 41, 817, 80, 81, 700, 701, 702, 703, 37, 987, 988, 989, 939, 940, 941, 942, 943, 944, 945, 946, 947, 948, 949] (by decide +kernel) (by decide +kernel)
set_option maxRecDepth 20000 in
theorem gL_law_X7_get : GoodIn wsL_law (wsV RL 143 RX7 yX7_get wsX7_get) := goodIn_app (goodIn_of _ (by decide +kernel)) ggL_law_X7_get
set_option maxRecDepth 20000 in
theorem ggL_law_X8_get : GoodIn wsL_law wsX8_get := goodIn_r _ [842, 843, 715, 104, 708, 709, 5, 710, 145, 146, 147, 826, 827, 828, 829, 101, 102, 103, 950, 951, 952, 953, 954, 955, 956, 957, 958, 959, 960, 961, 962, 963, 964, 965, 966, 967, 968, 969, 970, 971, 972, 973] (by decide +kernel) (by decide +kernel)
set_option maxRecDepth 20000 in
theorem gL_law_X8_get : GoodIn wsL_law (wsV RL 146 RX8 yX8_get wsX8_get) := goodIn_app (goodIn_of _ (by decide +kernel)) ggL_law_X8_get
set_option maxRecDepth 20000 in
theorem ggL_law_X7_copy : GoodIn wsL_law wsX7_copy := goodIn_r _ [847, 693, 695, 848, 849, 850, 851, 696, 697, 698, 2, 699, 35, 115, 116, 117, 700, 701, 702, 703, 37, 852, 853, 854, 41, 855, 81, 987, 988, 989, 939, 940, 941, 942, 943, 944, 945, 946, 947, 948, 949] (by decide +kernel) (by decide +kernel)
set_option maxRecDepth 20000 in
theorem gL_law_X7_copy : GoodIn wsL_law (wsV RL 147 RX7 yX7_copy wsX7_copy) := goodIn_app (goodIn_of _ (by decide +kernel)) ggL_law_X7_copy
set_option maxRecDepth 20000 in
theorem ggL_law_X8_copy : GoodIn wsL_law wsX8_copy := goodIn_r _ [859, 101, 102, 103, 105, 104, 708, 709, 5, 710, 145, 146, 147, 711, 712, 713, 714, 715, 950, 951, 952, 953, 954, 955, 956, 957, 958, 959, 960, 961, 962, 963, 964, 965, 966, 967, 968, 969, 970, 971, 972, 973] (by decide +kernel) (by decide +kernel)
set_option maxRecDepth 20000 in
theorem gL_law_X8_copy : GoodIn wsL_law (wsV RL 151 RX8 yX8_copy wsX8_copy) := goodIn_app (goodIn_of _ (by decide +kernel)) ggL_law_X8_copy
set_option maxRecDepth 20000 in
theorem ggL_law_X7_write : GoodIn wsL_law wsX7_write := goodIn_r _ [863, 693, 694, 695, 20, 696, 697, 698, 2, 699, 35, 115, 116, 117, 244, 245, 246, 247, 700, 701, 702, 703, 37, 248, 249, 250, 19, 251, 56, 252, 57, 253, 254, 255, 14, 256, 50, 46, 987, 988, 989, 939, 940, 941, 942, 943, 944, 945, 946, 947, 948, 949, 979, 980, 974, 975, 976, 977, 978] (by decide +kernel) (by decide +kernel)
set_option maxRecDepth 20000 in
theorem gL_law_X7_write : GoodIn wsL_law (wsV RL 152 RX7 yX7_write wsX7_write) := goodIn_app (goodIn_of _ (by decide +kernel)) ggL_law_X7_write
set_option maxRecDepth 20000 in
theorem ggL_law_X8_write : GoodIn wsL_law wsX8_write := goodIn_r _ [867, 101, 103, 261, 262, 5, 263, 264, 145, 146, 147, 708, 709, 710, 711, 712, 713, 714, 715, 265, 266, 267, 268, 269, 270, 271, 272, 89, 273, 274, 275, 276, 88, 87, 830, 831, 832, 833, 104, 102, 950, 951, 952, 953, 954, 955, 956, 957, 958, 959, 960, 961, 962, 963, 964, 965, 966, 967, 968, 969, 970, 971, 972, 973] (by decide +kernel) (by decide +kernel)
set_option maxRecDepth 20000 in
theorem gL_law_X8_write : GoodIn wsL_law (wsV RL 155 RX8 yX8_write wsX8_write) := goodIn_app (goodIn_of _ (by decide +kernel)) ggL_law_X8_write
set_option maxRecDepth 20000 in
theorem ggL_law_X7_count : GoodIn wsL_law wsX7_count := goodIn_r _ [871, 24, 872, 210, 28, 873, 193, 20, 37, 553, 554, 555, 23, 556, 209, 557, 207, 558, 208, 211, 212, 213, 201, 63, 202, 66, 67, 214, 215, 216, 217, 874, 875, 876, 877, 878, 388, 389, 390, 27, 391, 192, 392, 190, 393, 191, 194, 195, 196, 197, 198, 199, 200, 203, 204, 205, 879, 880, 881, 882, 883, 884, 395, 396, 397, 290, 291, 292, 19, 293, 56, 294, 57, 885, 886, 887, 2, 888, 31, 939, 940, 941, 942, 943, 944, 945, 946, 947, 948, 949, 983, 984, 981, 982, 979, 980, 974, 975, 976, 977, 978] (by decide +kernel) (by decide +kernel)
set_option maxRecDepth 20000 in
theorem gL_law_X7_count : GoodIn wsL_law (wsV RL 156 RX7 yX7_count wsX7_count) := goodIn_app (goodIn_of _ (by decide +kernel)) ggL_law_X7_count
set_option maxRecDepth 20000 in
theorem ggL_law_X8_count : GoodIn wsL_law wsX8_count := goodIn_r _ [892, 90, 715, 893, 894, 895, 5, 896, 230, 92, 235, 93, 97, 406, 407, 408, 409, 222, 223, 224, 225, 226, 227, 228, 229, 91, 231, 232, 233, 234, 236, 237, 238, 239, 145, 146, 147, 299, 300, 301, 302, 87, 950, 951, 952, 953, 954, 955, 956, 957, 958, 959, 960, 961, 962, 963, 964, 965, 966, 967, 968, 969, 970, 971, 972, 973] (by decide +kernel) (by decide +kernel)
set_option maxRecDepth 20000 in
theorem gL_law_X8_count : GoodIn wsL_law (wsV RL 159 RX8 yX8_count wsX8_count) := goodIn_app (goodIn_of _ (by decide +kernel)) ggL_law_X8_count
