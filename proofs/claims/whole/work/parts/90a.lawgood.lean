set_option maxRecDepth 20000 in
theorem ggL_law_X7_init : GoodIn wsL_law wsX7_init := goodIn_r _ [8, 9, 10, 11, 12, 13, 14, 15, 16, 17, 18, 19, 20, 21, 22, 23, 24, 25, 26, 27, 28, 29, 30, 31, 32, 33, 34, 35, 36, 37, 38, 39, 40, 41, 42, 43, 44, 45, 46, 47, 48, 49, 50, 51, 52, 53, 54, 55, 56, 57, 58, 59, 60, 61, 62, 63, 64, 65, 66, 67, 68, 69, 70, 71, 72, 73, 74, 75, 76, 77, 78, 79, 80, 81, 82, 974, 975, 976, 977, 978, 939, 940, 941, 942, 943, 944, 945, 946, 947, 948, 949, 979, 980, 981, 982, 983, 984, 985, 986, 987, 988, 989] (by decide +kernel) (by decide +kernel)
set_option maxRecDepth 20000 in
theorem gL_law_X7_init : GoodIn wsL_law (wsX7_init) := ggL_law_X7_init
set_option maxRecDepth 20000 in
theorem ggL_law_X8_init : GoodIn wsL_law wsX8_init := goodIn_r _ [85, 86, 10, 11, 29, 87, 88, 89, 90, 91, 92, 93, 94, 47, 95, 96, 97, 98, 99, 100, 101, 102, 103, 104, 105, 950, 951, 952, 953, 954, 955, 956, 957, 958, 959, 960, 961, 962, 963, 964, 965, 966, 967, 968, 969, 970, 971, 972, 973] (by decide +kernel) (by decide +kernel)
set_option maxRecDepth 20000 in
theorem gL_law_X8_init : GoodIn wsL_law (wsX8_init) := ggL_law_X8_init
set_option maxRecDepth 20000 in
theorem ggL_law_X7_sun : GoodIn wsL_law wsX7_sun := goodIn_r _ [109, 110, 111, 112, 113, 2, 114, 15, 16, 115, 116, 117, 118, 119, 120, 14, 121, 50, 46, 51, 122, 123, 124, 125, 126, 127, 128, 129, 130, 131, 132, 133, 134, 135, 136, 137, 974, 975, 976, 977, 978, 939, 940, 941, 942, 943, 944, 945, 946, 947, 948, 949] (by decide +kernel) (by decide +kernel)
set_option maxRecDepth 20000 in
theorem gL_law_X7_sun : GoodIn wsL_law (wsV RL 13 RX7 yX7_sun wsX7_sun) := goodIn_app (goodIn_of _ (by decide +kernel)) ggL_law_X7_sun
set_option maxRecDepth 20000 in
theorem ggL_law_X8_sun : GoodIn wsL_law wsX8_sun := goodIn_r _ [141, 87, 88, 89, 142, 143, 5, 144, 145, 146, 147, 950, 951, 952, 953, 954, 955, 956, 957, 958, 959, 960, 961, 962, 963, 964, 965, 966, 967, 968, 969, 970, 971, 972, 973] (by decide +kernel) (by decide +kernel)
set_option maxRecDepth 20000 in
theorem gL_law_X8_sun : GoodIn wsL_law (wsV RL 17 RX8 yX8_sun wsX8_sun) := goodIn_app (goodIn_of _ (by decide +kernel)) ggL_law_X8_sun
set_option maxRecDepth 20000 in
theorem ggL_law_X7_type : GoodIn wsL_law wsX7_type := goodIn_r _ [151, 152, 153, 154, 155, 2, 156, 24, 28, 115, 116, 117, 157, 158, 159, 160, 63, 161, 66, 67, 162, 983, 984, 981, 982, 939, 940, 941, 942, 943, 944, 945, 946, 947, 948, 949] (by decide +kernel) (by decide +kernel)
set_option maxRecDepth 20000 in
theorem gL_law_X7_type : GoodIn wsL_law (wsV RL 18 RX7 yX7_type wsX7_type) := goodIn_app (goodIn_of _ (by decide +kernel)) ggL_law_X7_type
set_option maxRecDepth 20000 in
theorem ggL_law_X8_type : GoodIn wsL_law wsX8_type := goodIn_r _ [166, 90, 91, 145, 146, 5, 147, 950, 951, 952, 953, 954, 955, 956, 957, 958, 959, 960, 961, 962, 963, 964, 965, 966, 967, 968, 969, 970, 971, 972, 973] (by decide +kernel) (by decide +kernel)
set_option maxRecDepth 20000 in
theorem gL_law_X8_type : GoodIn wsL_law (wsV RL 22 RX8 yX8_type wsX8_type) := goodIn_app (goodIn_of _ (by decide +kernel)) ggL_law_X8_type
set_option maxRecDepth 20000 in
theorem ggL_law_X7_wipe : GoodIn wsL_law wsX7_wipe := goodIn_r _ [170, 152, 153, 154, 155, 2, 156, 24, 28, 983, 984, 981, 982, 939, 940, 941, 942, 943, 944, 945, 946, 947, 948, 949] (by decide +kernel) (by decide +kernel)
set_option maxRecDepth 20000 in
theorem gL_law_X7_wipe : GoodIn wsL_law (wsV RL 23 RX7 yX7_wipe wsX7_wipe) := goodIn_app (goodIn_of _ (by decide +kernel)) ggL_law_X7_wipe
set_option maxRecDepth 20000 in
theorem ggL_law_X8_wipe : GoodIn wsL_law wsX8_wipe := goodIn_r _ [174, 90, 145, 146, 5, 147, 950, 951, 952, 953, 954, 955, 956, 957, 958, 959, 960, 961, 962, 963, 964, 965, 966, 967, 968, 969, 970, 971, 972, 973] (by decide +kernel) (by decide +kernel)
set_option maxRecDepth 20000 in
theorem gL_law_X8_wipe : GoodIn wsL_law (wsV RL 27 RX8 yX8_wipe wsX8_wipe) := goodIn_app (goodIn_of _ (by decide +kernel)) ggL_law_X8_wipe
set_option maxRecDepth 20000 in
theorem ggL_law_X7_undo : GoodIn wsL_law wsX7_undo := goodIn_r _ [178, 152, 153, 154, 155, 2, 156, 24, 28, 983, 984, 981, 982, 939, 940, 941, 942, 943, 944, 945, 946, 947, 948, 949] (by decide +kernel) (by decide +kernel)
set_option maxRecDepth 20000 in
theorem gL_law_X7_undo : GoodIn wsL_law (wsV RL 28 RX7 yX7_undo wsX7_undo) := goodIn_app (goodIn_of _ (by decide +kernel)) ggL_law_X7_undo
set_option maxRecDepth 20000 in
theorem ggL_law_X8_undo : GoodIn wsL_law wsX8_undo := goodIn_r _ [182, 90, 145, 146, 5, 147, 950, 951, 952, 953, 954, 955, 956, 957, 958, 959, 960, 961, 962, 963, 964, 965, 966, 967, 968, 969, 970, 971, 972, 973] (by decide +kernel) (by decide +kernel)
set_option maxRecDepth 20000 in
theorem gL_law_X8_undo : GoodIn wsL_law (wsV RL 31 RX8 yX8_undo wsX8_undo) := goodIn_app (goodIn_of _ (by decide +kernel)) ggL_law_X8_undo
set_option maxRecDepth 20000 in
theorem ggL_law_X7_fault : GoodIn wsL_law wsX7_fault := goodIn_r _ [186, 153, 154, 155, 2, 156, 24, 28, 187, 188, 189, 190, 27, 191, 192, 193, 194, 195, 196, 197, 198, 199, 200, 201, 63, 202, 66, 67, 203, 204, 205, 206, 207, 23, 208, 209, 210, 211, 212, 213, 214, 215, 216, 217, 939, 940, 941, 942, 943, 944, 945, 946, 947, 948, 949, 983, 984, 981, 982] (by decide +kernel) (by decide +kernel)
set_option maxRecDepth 20000 in
theorem gL_law_X7_fault : GoodIn wsL_law (wsV RL 32 RX7 yX7_fault wsX7_fault) := goodIn_app (goodIn_of _ (by decide +kernel)) ggL_law_X7_fault
set_option maxRecDepth 20000 in
theorem ggL_law_X8_fault : GoodIn wsL_law wsX8_fault := goodIn_r _ [221, 145, 146, 5, 147, 222, 223, 224, 225, 226, 227, 228, 229, 230, 90, 91, 92, 231, 232, 233, 234, 235, 93, 236, 237, 238, 239, 950, 951, 952, 953, 954, 955, 956, 957, 958, 959, 960, 961, 962, 963, 964, 965, 966, 967, 968, 969, 970, 971, 972, 973] (by decide +kernel) (by decide +kernel)
set_option maxRecDepth 20000 in
theorem gL_law_X8_fault : GoodIn wsL_law (wsV RL 35 RX8 yX8_fault wsX8_fault) := goodIn_app (goodIn_of _ (by decide +kernel)) ggL_law_X8_fault
set_option maxRecDepth 20000 in
theorem ggL_law_X7_light : GoodIn wsL_law wsX7_light := goodIn_r _ [243, 20, 244, 245, 2, 246, 247, 115, 116, 117, 248, 249, 250, 19, 251, 56, 252, 57, 253, 254, 255, 14, 256, 50, 46, 939, 940, 941, 942, 943, 944, 945, 946, 947, 948, 949, 979, 980, 974, 975, 976, 977, 978] (by decide +kernel) (by decide +kernel)
set_option maxRecDepth 20000 in
theorem gL_law_X7_light : GoodIn wsL_law (wsV RL 36 RX7 yX7_light wsX7_light) := goodIn_app (goodIn_of _ (by decide +kernel)) ggL_law_X7_light
set_option maxRecDepth 20000 in
theorem ggL_law_X8_light : GoodIn wsL_law wsX8_light := goodIn_r _ [260, 261, 262, 5, 263, 264, 145, 146, 147, 265, 266, 267, 268, 269, 270, 271, 272, 89, 273, 274, 275, 276, 88, 87, 950, 951, 952, 953, 954, 955, 956, 957, 958, 959, 960, 961, 962, 963, 964, 965, 966, 967, 968, 969, 970, 971, 972, 973] (by decide +kernel) (by decide +kernel)
set_option maxRecDepth 20000 in
theorem gL_law_X8_light : GoodIn wsL_law (wsV RL 39 RX8 yX8_light wsX8_light) := goodIn_app (goodIn_of _ (by decide +kernel)) ggL_law_X8_light
set_option maxRecDepth 20000 in
theorem ggL_law_X7_place : GoodIn wsL_law wsX7_place := goodIn_r _ [280, 111, 112, 113, 2, 114, 15, 16, 244, 245, 246, 247, 115, 116, 117, 281, 254, 255, 14, 256, 50, 46, 939, 940, 941, 942, 943, 944, 945, 946, 947, 948, 949, 974, 975, 976, 977, 978] (by decide +kernel) (by decide +kernel)
set_option maxRecDepth 20000 in
theorem gL_law_X7_place : GoodIn wsL_law (wsV RL 40 RX7 yX7_place wsX7_place) := goodIn_app (goodIn_of _ (by decide +kernel)) ggL_law_X7_place
set_option maxRecDepth 20000 in
theorem ggL_law_X8_place : GoodIn wsL_law wsX8_place := goodIn_r _ [285, 142, 143, 5, 144, 145, 146, 147, 261, 262, 263, 264, 273, 274, 275, 276, 88, 87, 950, 951, 952, 953, 954, 955, 956, 957, 958, 959, 960, 961, 962, 963, 964, 965, 966, 967, 968, 969, 970, 971, 972, 973] (by decide +kernel) (by decide +kernel)
set_option maxRecDepth 20000 in
theorem gL_law_X8_place : GoodIn wsL_law (wsV RL 43 RX8 yX8_place wsX8_place) := goodIn_app (goodIn_of _ (by decide +kernel)) ggL_law_X8_place
set_option maxRecDepth 20000 in
theorem ggL_law_X7_round : GoodIn wsL_law wsX7_round := goodIn_r _ [289, 20, 290, 291, 292, 19, 293, 56, 294, 57, 939, 940, 941, 942, 943, 944, 945, 946, 947, 948, 949, 979, 980, 974, 975, 976, 977, 978] (by decide +kernel) (by decide +kernel)
set_option maxRecDepth 20000 in
theorem gL_law_X7_round : GoodIn wsL_law (wsV RL 44 RX7 yX7_round wsX7_round) := goodIn_app (goodIn_of _ (by decide +kernel)) ggL_law_X7_round
set_option maxRecDepth 20000 in
theorem ggL_law_X8_round : GoodIn wsL_law wsX8_round := goodIn_r _ [298, 299, 300, 301, 5, 302, 87, 950, 951, 952, 953, 954, 955, 956, 957, 958, 959, 960, 961, 962, 963, 964, 965, 966, 967, 968, 969, 970, 971, 972, 973] (by decide +kernel) (by decide +kernel)
set_option maxRecDepth 20000 in
theorem gL_law_X8_round : GoodIn wsL_law (wsV RL 48 RX8 yX8_round wsX8_round) := goodIn_app (goodIn_of _ (by decide +kernel)) ggL_law_X8_round
set_option maxRecDepth 20000 in
theorem ggL_law_X7_next : GoodIn wsL_law wsX7_next := goodIn_r _ [306, 20, 244, 245, 2, 246, 247, 115, 116, 117, 307, 308, 309, 310, 311, 312, 19, 313, 314, 291, 292, 293, 56, 294, 57, 315, 249, 250, 251, 252, 253, 254, 255, 14, 256, 50, 46, 939, 940, 941, 942, 943, 944, 945, 946, 947, 948, 949, 979, 980, 974, 975, 976, 977, 978] (by decide +kernel) (by decide +kernel)
set_option maxRecDepth 20000 in
theorem gL_law_X7_next : GoodIn wsL_law (wsV RL 49 RX7 yX7_next wsX7_next) := goodIn_app (goodIn_of _ (by decide +kernel)) ggL_law_X7_next
set_option maxRecDepth 20000 in
theorem ggL_law_X8_next : GoodIn wsL_law wsX8_next := goodIn_r _ [319, 261, 262, 5, 263, 264, 145, 146, 147, 320, 321, 322, 323, 324, 325, 326, 299, 300, 301, 302, 87, 265, 266, 267, 268, 269, 270, 271, 272, 89, 273, 274, 275, 276, 88, 950, 951, 952, 953, 954, 955, 956, 957, 958, 959, 960, 961, 962, 963, 964, 965, 966, 967, 968, 969, 970, 971, 972, 973] (by decide +kernel) (by decide +kernel)
set_option maxRecDepth 20000 in
theorem gL_law_X8_next : GoodIn wsL_law (wsV RL 52 RX8 yX8_next wsX8_next) := goodIn_app (goodIn_of _ (by decide +kernel)) ggL_law_X8_next
set_option maxRecDepth 20000 in
theorem ggL_law_X7_lasts : GoodIn wsL_law wsX7_lasts := goodIn_r _ [330, 20, 244, 245, 2, 246, 247, 115, 116, 117, 331, 332, 333, 19, 334, 314, 291, 292, 293, 56, 294, 57, 315, 249, 250, 251, 252, 253, 254, 255, 14, 256, 50, 46, 939, 940, 941, 942, 943, 944, 945, 946, 947, 948, 949, 979, 980, 974, 975, 976, 977, 978] (by decide +kernel) (by decide +kernel)
set_option maxRecDepth 20000 in
theorem gL_law_X7_lasts : GoodIn wsL_law (wsV RL 53 RX7 yX7_lasts wsX7_lasts) := goodIn_app (goodIn_of _ (by decide +kernel)) ggL_law_X7_lasts
set_option maxRecDepth 20000 in
theorem ggL_law_X8_lasts : GoodIn wsL_law wsX8_lasts := goodIn_r _ [338, 261, 262, 5, 263, 264, 145, 146, 147, 339, 340, 341, 342, 299, 300, 301, 302, 87, 265, 266, 267, 268, 269, 270, 271, 272, 89, 273, 274, 275, 276, 88, 950, 951, 952, 953, 954, 955, 956, 957, 958, 959, 960, 961, 962, 963, 964, 965, 966, 967, 968, 969, 970, 971, 972, 973] (by decide +kernel) (by decide +kernel)
set_option maxRecDepth 20000 in
theorem gL_law_X8_lasts : GoodIn wsL_law (wsV RL 56 RX8 yX8_lasts wsX8_lasts) := goodIn_app (goodIn_of _ (by decide +kernel)) ggL_law_X8_lasts
set_option maxRecDepth 20000 in
theorem ggL_law_X7_spells : GoodIn wsL_law wsX7_spells := goodIn_r _ [346, 20, 307, 308, 2, 309, 115, 116, 117, 347, 348, 349, 19, 350, 314, 291, 292, 293, 56, 294, 57, 315, 249, 250, 251, 252, 253, 254, 255, 14, 256, 50, 46, 351, 352, 353, 354, 355, 356, 357, 358, 359, 360, 124, 361, 362, 123, 125, 939, 940, 941, 942, 943, 944, 945, 946, 947, 948, 949, 979, 980, 974, 975, 976, 977, 978] (by decide +kernel) (by decide +kernel)
set_option maxRecDepth 20000 in
theorem gL_law_X7_spells : GoodIn wsL_law (wsV RL 57 RX7 yX7_spells wsX7_spells) := goodIn_app (goodIn_of _ (by decide +kernel)) ggL_law_X7_spells
set_option maxRecDepth 20000 in
theorem ggL_law_X8_spells : GoodIn wsL_law wsX8_spells := goodIn_r _ [366, 320, 321, 5, 322, 145, 146, 147, 367, 368, 369, 370, 299, 300, 301, 302, 87, 265, 266, 267, 268, 269, 270, 271, 272, 89, 273, 274, 275, 276, 88, 339, 340, 341, 342, 950, 951, 952, 953, 954, 955, 956, 957, 958, 959, 960, 961, 962, 963, 964, 965, 966, 967, 968, 969, 970, 971, 972, 973] (by decide +kernel) (by decide +kernel)
set_option maxRecDepth 20000 in
theorem gL_law_X8_spells : GoodIn wsL_law (wsV RL 60 RX8 yX8_spells wsX8_spells) := goodIn_app (goodIn_of _ (by decide +kernel)) ggL_law_X8_spells
set_option maxRecDepth 20000 in
theorem ggL_law_X7_without : GoodIn wsL_law wsX7_without := goodIn_r _ [374, 375, 20, 110, 111, 112, 113, 2, 114, 15, 16, 290, 291, 292, 19, 293, 56, 294, 57, 974, 975, 976, 977, 978, 939, 940, 941, 942, 943, 944, 945, 946, 947, 948, 949, 979, 980] (by decide +kernel) (by decide +kernel)
set_option maxRecDepth 20000 in
theorem gL_law_X7_without : GoodIn wsL_law (wsV RL 61 RX7 yX7_without wsX7_without) := goodIn_app (goodIn_of _ (by decide +kernel)) ggL_law_X7_without
