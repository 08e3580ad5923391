set_option maxRecDepth 20000 in
theorem ggL_law_X8_without : GoodIn wsL_law wsX8_without := goodIn_r _ [379, 142, 143, 5, 144, 145, 146, 147, 380, 381, 382, 383, 89, 87, 299, 300, 301, 302, 950, 951, 952, 953, 954, 955, 956, 957, 958, 959, 960, 961, 962, 963, 964, 965, 966, 967, 968, 969, 970, 971, 972, 973] (by decide +kernel) (by decide +kernel)
set_option maxRecDepth 20000 in
theorem gL_law_X8_without : GoodIn wsL_law (wsV RL 64 RX8 yX8_without wsX8_without) := goodIn_app (goodIn_of _ (by decide +kernel)) ggL_law_X8_without
set_option maxRecDepth 20000 in
theorem ggL_law_X7_month : GoodIn wsL_law wsX7_month := goodIn_r _ [387, 28, 388, 389, 390, 27, 391, 192, 193, 392, 190, 393, 191, 194, 195, 196, 197, 198, 199, 200, 201, 63, 202, 66, 67, 203, 204, 205, 115, 116, 2, 117, 394, 395, 396, 397, 939, 940, 941, 942, 943, 944, 945, 946, 947, 948, 949, 983, 984, 981, 982] (by decide +kernel) (by decide +kernel)
set_option maxRecDepth 20000 in
theorem gL_law_X7_month : GoodIn wsL_law (wsV RL 65 RX7 yX7_month wsX7_month) := goodIn_app (goodIn_of _ (by decide +kernel)) ggL_law_X7_month
set_option maxRecDepth 20000 in
theorem ggL_law_X8_month : GoodIn wsL_law wsX8_month := goodIn_r _ [401, 402, 403, 404, 5, 405, 235, 93, 406, 407, 408, 409, 222, 223, 224, 225, 226, 227, 228, 229, 230, 90, 91, 92, 231, 232, 233, 234, 236, 237, 238, 239, 145, 146, 147, 950, 951, 952, 953, 954, 955, 956, 957, 958, 959, 960, 961, 962, 963, 964, 965, 966, 967, 968, 969, 970, 971, 972, 973] (by decide +kernel) (by decide +kernel)
set_option maxRecDepth 20000 in
theorem gL_law_X8_month : GoodIn wsL_law (wsV RL 68 RX8 yX8_month wsX8_month) := goodIn_app (goodIn_of _ (by decide +kernel)) ggL_law_X8_month
set_option maxRecDepth 20000 in
theorem ggL_law_X7_drift : GoodIn wsL_law wsX7_drift := goodIn_r _ [413, 28, 375, 111, 112, 113, 2, 114, 15, 16, 115, 116, 117, 388, 389, 390, 27, 391, 192, 193, 392, 190, 393, 191, 194, 195, 196, 197, 198, 199, 200, 201, 63, 202, 66, 67, 203, 204, 205, 414, 415, 416, 417, 418, 360, 124, 361, 419, 420, 421, 14, 422, 50, 122, 123, 125, 423, 254, 255, 256, 46, 394, 395, 396, 397, 939, 940, 941, 942, 943, 944, 945, 946, 947, 948, 949, 974, 975, 976, 977, 978, 983, 984, 981, 982] (by decide +kernel) (by decide +kernel)
set_option maxRecDepth 20000 in
theorem gL_law_X7_drift : GoodIn wsL_law (wsV RL 69 RX7 yX7_drift wsX7_drift) := goodIn_app (goodIn_of _ (by decide +kernel)) ggL_law_X7_drift
set_option maxRecDepth 20000 in
theorem ggL_law_X8_drift : GoodIn wsL_law wsX8_drift := goodIn_r _ [427, 142, 143, 5, 144, 145, 146, 147, 428, 429, 430, 431, 235, 89, 93, 406, 407, 408, 409, 222, 223, 224, 225, 226, 227, 228, 229, 230, 90, 91, 92, 231, 232, 233, 234, 236, 237, 238, 239, 432, 433, 434, 435, 87, 273, 274, 275, 276, 88, 950, 951, 952, 953, 954, 955, 956, 957, 958, 959, 960, 961, 962, 963, 964, 965, 966, 967, 968, 969, 970, 971, 972, 973] (by decide +kernel) (by decide +kernel)
set_option maxRecDepth 20000 in
theorem gL_law_X8_drift : GoodIn wsL_law (wsV RL 72 RX8 yX8_drift wsX8_drift) := goodIn_app (goodIn_of _ (by decide +kernel)) ggL_law_X8_drift
set_option maxRecDepth 20000 in
theorem ggL_law_X7_shortest : GoodIn wsL_law wsX7_shortest := goodIn_r _ [439, 375, 111, 112, 113, 2, 114, 15, 16, 115, 116, 117, 440, 441, 442, 418, 360, 124, 361, 419, 420, 421, 14, 422, 50, 122, 123, 125, 423, 254, 255, 256, 46, 443, 444, 445, 446, 974, 975, 976, 977, 978, 939, 940, 941, 942, 943, 944, 945, 946, 947, 948, 949] (by decide +kernel) (by decide +kernel)
set_option maxRecDepth 20000 in
theorem gL_law_X7_shortest : GoodIn wsL_law (wsV RL 73 RX7 yX7_shortest wsX7_shortest) := goodIn_app (goodIn_of _ (by decide +kernel)) ggL_law_X7_shortest
set_option maxRecDepth 20000 in
theorem ggL_law_X8_shortest : GoodIn wsL_law wsX8_shortest := goodIn_r _ [450, 142, 143, 5, 144, 145, 146, 147, 451, 452, 453, 454, 89, 455, 456, 457, 458, 432, 433, 434, 435, 87, 273, 274, 275, 276, 88, 950, 951, 952, 953, 954, 955, 956, 957, 958, 959, 960, 961, 962, 963, 964, 965, 966, 967, 968, 969, 970, 971, 972, 973] (by decide +kernel) (by decide +kernel)
set_option maxRecDepth 20000 in
theorem gL_law_X8_shortest : GoodIn wsL_law (wsV RL 77 RX8 yX8_shortest wsX8_shortest) := goodIn_app (goodIn_of _ (by decide +kernel)) ggL_law_X8_shortest
set_option maxRecDepth 20000 in
theorem ggL_law_X7_awake : GoodIn wsL_law wsX7_awake := goodIn_r _ [462, 30, 463, 464, 2, 465, 115, 116, 117, 939, 940, 941, 942, 943, 944, 945, 946, 947, 948, 949] (by decide +kernel) (by decide +kernel)
set_option maxRecDepth 20000 in
theorem gL_law_X7_awake : GoodIn wsL_law (wsV RL 78 RX7 yX7_awake wsX7_awake) := goodIn_app (goodIn_of _ (by decide +kernel)) ggL_law_X7_awake
set_option maxRecDepth 20000 in
theorem ggL_law_X8_awake : GoodIn wsL_law wsX8_awake := goodIn_r _ [469, 94, 470, 471, 5, 472, 145, 146, 147, 950, 951, 952, 953, 954, 955, 956, 957, 958, 959, 960, 961, 962, 963, 964, 965, 966, 967, 968, 969, 970, 971, 972, 973] (by decide +kernel) (by decide +kernel)
set_option maxRecDepth 20000 in
theorem gL_law_X8_awake : GoodIn wsL_law (wsV RL 81 RX8 yX8_awake wsX8_awake) := goodIn_app (goodIn_of _ (by decide +kernel)) ggL_law_X8_awake
set_option maxRecDepth 20000 in
theorem ggL_law_X7_together : GoodIn wsL_law wsX7_together := goodIn_r _ [476, 20, 115, 116, 2, 117, 244, 245, 246, 247, 477, 478, 479, 480, 30, 481, 482, 483, 19, 484, 485, 486, 487, 488, 315, 249, 250, 251, 56, 252, 57, 253, 254, 255, 14, 256, 50, 46, 489, 490, 491, 492, 314, 291, 292, 293, 294, 493, 939, 940, 941, 942, 943, 944, 945, 946, 947, 948, 949, 979, 980, 974, 975, 976, 977, 978] (by decide +kernel) (by decide +kernel)
set_option maxRecDepth 20000 in
theorem gL_law_X7_together : GoodIn wsL_law (wsV RL 82 RX7 yX7_together wsX7_together) := goodIn_app (goodIn_of _ (by decide +kernel)) ggL_law_X7_together
set_option maxRecDepth 20000 in
theorem ggL_law_X8_together : GoodIn wsL_law wsX8_together := goodIn_r _ [497, 145, 146, 5, 147, 261, 262, 263, 264, 498, 499, 500, 501, 502, 503, 504, 505, 94, 506, 507, 508, 299, 300, 301, 302, 87, 509, 510, 511, 512, 265, 266, 267, 268, 269, 270, 271, 272, 89, 273, 274, 275, 276, 88, 950, 951, 952, 953, 954, 955, 956, 957, 958, 959, 960, 961, 962, 963, 964, 965, 966, 967, 968, 969, 970, 971, 972, 973] (by decide +kernel) (by decide +kernel)
set_option maxRecDepth 20000 in
theorem gL_law_X8_together : GoodIn wsL_law (wsV RL 85 RX8 yX8_together wsX8_together) := goodIn_app (goodIn_of _ (by decide +kernel)) ggL_law_X8_together
set_option maxRecDepth 20000 in
theorem ggL_law_X7_dials : GoodIn wsL_law wsX7_dials := goodIn_r _ [516, 20, 115, 116, 2, 117, 517, 518, 519, 19, 520, 314, 291, 292, 293, 56, 294, 57, 521, 522, 523, 524, 525, 526, 527, 14, 528, 51, 423, 254, 255, 256, 50, 46, 529, 530, 531, 532, 939, 940, 941, 942, 943, 944, 945, 946, 947, 948, 949, 979, 980, 974, 975, 976, 977, 978] (by decide +kernel) (by decide +kernel)
set_option maxRecDepth 20000 in
theorem gL_law_X7_dials : GoodIn wsL_law (wsV RL 86 RX7 yX7_dials wsX7_dials) := goodIn_app (goodIn_of _ (by decide +kernel)) ggL_law_X7_dials
set_option maxRecDepth 20000 in
theorem ggL_law_X8_dials : GoodIn wsL_law wsX8_dials := goodIn_r _ [536, 145, 146, 5, 147, 537, 538, 539, 540, 299, 300, 301, 302, 87, 541, 542, 543, 544, 269, 270, 271, 272, 89, 273, 274, 275, 276, 88, 950, 951, 952, 953, 954, 955, 956, 957, 958, 959, 960, 961, 962, 963, 964, 965, 966, 967, 968, 969, 970, 971, 972, 973] (by decide +kernel) (by decide +kernel)
set_option maxRecDepth 20000 in
theorem gL_law_X8_dials : GoodIn wsL_law (wsV RL 89 RX8 yX8_dials wsX8_dials) := goodIn_app (goodIn_of _ (by decide +kernel)) ggL_law_X8_dials
set_option maxRecDepth 20000 in
theorem ggL_law_X7_fits : GoodIn wsL_law wsX7_fits := goodIn_r _ [548, 15, 16, 115, 116, 2, 117, 549, 550, 551, 552, 24, 553, 554, 555, 23, 556, 209, 210, 557, 207, 558, 208, 211, 212, 213, 201, 63, 202, 66, 67, 214, 215, 216, 217, 559, 560, 561, 14, 562, 50, 48, 563, 564, 565, 566, 51, 567, 126, 127, 128, 129, 568, 569, 570, 571, 572, 573, 574, 575, 939, 940, 941, 942, 943, 944, 945, 946, 947, 948, 949, 983, 984, 981, 982, 974, 975, 976, 977, 978] (by decide +kernel) (by decide +kernel)
set_option maxRecDepth 20000 in
theorem gL_law_X7_fits : GoodIn wsL_law (wsV RL 90 RX7 yX7_fits wsX7_fits) := goodIn_app (goodIn_of _ (by decide +kernel)) ggL_law_X7_fits
set_option maxRecDepth 20000 in
theorem ggL_law_X8_fits : GoodIn wsL_law wsX8_fits := goodIn_r _ [579, 145, 146, 5, 147, 580, 581, 582, 583, 584, 585, 586, 587, 588, 589, 87, 95, 406, 407, 408, 409, 222, 223, 224, 225, 226, 227, 228, 229, 230, 90, 91, 92, 231, 232, 233, 234, 235, 93, 236, 237, 238, 239, 590, 591, 592, 593, 594, 595, 596, 597, 89, 950, 951, 952, 953, 954, 955, 956, 957, 958, 959, 960, 961, 962, 963, 964, 965, 966, 967, 968, 969, 970, 971, 972, 973] (by decide +kernel) (by decide +kernel)
set_option maxRecDepth 20000 in
theorem gL_law_X8_fits : GoodIn wsL_law (wsV RL 93 RX8 yX8_fits wsX8_fits) := goodIn_app (goodIn_of _ (by decide +kernel)) ggL_law_X8_fits
set_option maxRecDepth 20000 in
theorem ggL_law_X7_watch : GoodIn wsL_law wsX7_watch := goodIn_r _ [601, 15, 16, 20, 24, 115, 116, 2, 117, 549, 550, 551, 552, 553, 554, 555, 23, 556, 209, 210, 557, 207, 558, 208, 211, 212, 213, 201, 63, 202, 66, 67, 214, 215, 216, 217, 559, 560, 561, 14, 562, 50, 48, 563, 564, 565, 566, 51, 567, 126, 127, 128, 129, 568, 569, 570, 571, 602, 603, 604, 605, 49, 606, 360, 124, 361, 607, 608, 609, 610, 19, 611, 314, 291, 292, 293, 56, 294, 57, 612, 613, 614, 615, 616, 617, 618, 619, 620, 939, 940, 941, 942, 943, 944, 945, 946, 947, 948, 949, 983, 984, 981, 982, 974, 975, 976, 977, 978, 979, 980] (by decide +kernel) (by decide +kernel)
set_option maxRecDepth 20000 in
theorem gL_law_X7_watch : GoodIn wsL_law (wsV RL 94 RX7 yX7_watch wsX7_watch) := goodIn_app (goodIn_of _ (by decide +kernel)) ggL_law_X7_watch
set_option maxRecDepth 20000 in
theorem ggL_law_X8_watch : GoodIn wsL_law wsX8_watch := goodIn_r _ [624, 145, 146, 5, 147, 625, 626, 627, 628, 584, 230, 586, 587, 588, 589, 585, 87, 95, 406, 407, 408, 409, 222, 223, 224, 225, 226, 227, 228, 229, 90, 91, 92, 231, 232, 233, 234, 235, 93, 236, 237, 238, 239, 590, 591, 592, 593, 594, 595, 596, 597, 89, 299, 300, 301, 302, 629, 630, 631, 632, 96, 950, 951, 952, 953, 954, 955, 956, 957, 958, 959, 960, 961, 962, 963, 964, 965, 966, 967, 968, 969, 970, 971, 972, 973] (by decide +kernel) (by decide +kernel)
set_option maxRecDepth 20000 in
theorem gL_law_X8_watch : GoodIn wsL_law (wsV RL 97 RX8 yX8_watch wsX8_watch) := goodIn_app (goodIn_of _ (by decide +kernel)) ggL_law_X8_watch
set_option maxRecDepth 20000 in
theorem ggL_law_X7_worth : GoodIn wsL_law wsX7_worth := goodIn_r _ [636, 31, 463, 464, 2, 465, 115, 116, 117, 939, 940, 941, 942, 943, 944, 945, 946, 947, 948, 949] (by decide +kernel) (by decide +kernel)
set_option maxRecDepth 20000 in
theorem gL_law_X7_worth : GoodIn wsL_law (wsV RL 98 RX7 yX7_worth wsX7_worth) := goodIn_app (goodIn_of _ (by decide +kernel)) ggL_law_X7_worth
set_option maxRecDepth 20000 in
theorem ggL_law_X8_worth : GoodIn wsL_law wsX8_worth := goodIn_r _ [640, 97, 470, 471, 5, 472, 145, 146, 147, 950, 951, 952, 953, 954, 955, 956, 957, 958, 959, 960, 961, 962, 963, 964, 965, 966, 967, 968, 969, 970, 971, 972, 973] (by decide +kernel) (by decide +kernel)
set_option maxRecDepth 20000 in
theorem gL_law_X8_worth : GoodIn wsL_law (wsV RL 101 RX8 yX8_worth wsX8_worth) := goodIn_app (goodIn_of _ (by decide +kernel)) ggL_law_X8_worth
set_option maxRecDepth 20000 in
theorem ggL_law_X7_price : GoodIn wsL_law wsX7_price := goodIn_r _ [644, 31, 115, 116, 2, 117, 645, 646, 647, 648, 30, 649, 650, 651, 652, 939, 940, 941, 942, 943, 944, 945, 946, 947, 948, 949] (by decide +kernel) (by decide +kernel)
set_option maxRecDepth 20000 in
theorem gL_law_X7_price : GoodIn wsL_law (wsV RL 102 RX7 yX7_price wsX7_price) := goodIn_app (goodIn_of _ (by decide +kernel)) ggL_law_X7_price
set_option maxRecDepth 20000 in
theorem ggL_law_X8_price : GoodIn wsL_law wsX8_price := goodIn_r _ [656, 145, 146, 5, 147, 657, 658, 659, 660, 94, 97, 506, 507, 508, 950, 951, 952, 953, 954, 955, 956, 957, 958, 959, 960, 961, 962, 963, 964, 965, 966, 967, 968, 969, 970, 971, 972, 973] (by decide +kernel) (by decide +kernel)
set_option maxRecDepth 20000 in
theorem gL_law_X8_price : GoodIn wsL_law (wsV RL 105 RX8 yX8_price wsX8_price) := goodIn_app (goodIn_of _ (by decide +kernel)) ggL_law_X8_price
set_option maxRecDepth 20000 in
theorem ggL_law_X7_plant : GoodIn wsL_law wsX7_plant := goodIn_r _ [664, 665, 666, 667, 668, 2, 669, 33, 115, 116, 117, 985, 986, 939, 940, 941, 942, 943, 944, 945, 946, 947, 948, 949] (by decide +kernel) (by decide +kernel)
set_option maxRecDepth 20000 in
theorem gL_law_X7_plant : GoodIn wsL_law (wsV RL 106 RX7 yX7_plant wsX7_plant) := goodIn_app (goodIn_of _ (by decide +kernel)) ggL_law_X7_plant
set_option maxRecDepth 20000 in
theorem ggL_law_X8_plant : GoodIn wsL_law wsX8_plant := goodIn_r _ [673, 98, 674, 675, 5, 676, 145, 146, 147, 950, 951, 952, 953, 954, 955, 956, 957, 958, 959, 960, 961, 962, 963, 964, 965, 966, 967, 968, 969, 970, 971, 972, 973] (by decide +kernel) (by decide +kernel)
set_option maxRecDepth 20000 in
theorem gL_law_X8_plant : GoodIn wsL_law (wsV RL 109 RX8 yX8_plant wsX8_plant) := goodIn_app (goodIn_of _ (by decide +kernel)) ggL_law_X8_plant
set_option maxRecDepth 20000 in
theorem ggL_law_X7_grows : GoodIn wsL_law wsX7_grows := goodIn_r _ [680, 681, 666, 667, 668, 2, 669, 33, 115, 116, 117, 307, 308, 309, 682, 683, 684, 985, 986, 939, 940, 941, 942, 943, 944, 945, 946, 947, 948, 949] (by decide +kernel) (by decide +kernel)
set_option maxRecDepth 20000 in
theorem gL_law_X7_grows : GoodIn wsL_law (wsV RL 110 RX7 yX7_grows wsX7_grows) := goodIn_app (goodIn_of _ (by decide +kernel)) ggL_law_X7_grows
set_option maxRecDepth 20000 in
theorem ggL_law_X8_grows : GoodIn wsL_law wsX8_grows := goodIn_r _ [688, 99, 674, 675, 5, 676, 145, 146, 147, 320, 321, 322, 950, 951, 952, 953, 954, 955, 956, 957, 958, 959, 960, 961, 962, 963, 964, 965, 966, 967, 968, 969, 970, 971, 972, 973] (by decide +kernel) (by decide +kernel)
set_option maxRecDepth 20000 in
theorem gL_law_X8_grows : GoodIn wsL_law (wsV RL 113 RX8 yX8_grows wsX8_grows) := goodIn_app (goodIn_of _ (by decide +kernel)) ggL_law_X8_grows
