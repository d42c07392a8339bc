set_option maxRecDepth 20000 in
theorem ggL_law_X8_actor : GoodIn wsL_law wsX8_actor := goodIn_r _ [846, 93, 847, 537, 538, 539, 5, 540, 89, 168, 169, 170, 644, 645, 646, 647, 624, 625, 626, 627, 954, 955, 956, 957, 958, 959, 960, 961, 962, 963, 964, 965] (by decide +kernel) (by decide +kernel)
set_option maxRecDepth 20000 in
theorem gL_law_X8_actor : GoodIn wsL_law (wsV RL 98 RX8 yX8_actor wsX8_actor) := goodIn_app (goodIn_of _ (by decide +kernel)) ggL_law_X8_actor
set_option maxRecDepth 20000 in
theorem ggL_law_X7_hired : GoodIn wsL_law wsX7_hired := goodIn_r _ [851, 15, 665, 852, 853, 854, 855, 693, 694, 695, 41, 696, 150, 193, 194, 2, 195, 950, 951, 952, 953, 966, 967, 968, 969, 970, 971, 972, 973, 974, 1000, 1001, 1002, 1003, 1004, 1005] (by decide +kernel) (by decide +kernel)
set_option maxRecDepth 20000 in
theorem gL_law_X7_hired : GoodIn wsL_law (wsV RL 99 RX7 yX7_hired wsX7_hired) := goodIn_app (goodIn_of _ (by decide +kernel)) ggL_law_X7_hired
set_option maxRecDepth 20000 in
theorem ggL_law_X8_hired : GoodIn wsL_law wsX8_hired := goodIn_r _ [859, 93, 89, 162, 168, 169, 5, 170, 300, 301, 302, 303, 954, 955, 956, 957, 958, 959, 960, 961, 962, 963, 964, 965] (by decide +kernel) (by decide +kernel)
set_option maxRecDepth 20000 in
theorem gL_law_X8_hired : GoodIn wsL_law (wsV RL 102 RX8 yX8_hired wsX8_hired) := goodIn_app (goodIn_of _ (by decide +kernel)) ggL_law_X8_hired
set_option maxRecDepth 20000 in
theorem ggL_law_X7_problems : GoodIn wsL_law wsX7_problems := goodIn_r _ [863, 15, 103, 104, 2, 105, 547, 548, 549, 14, 550, 551, 552, 553, 554, 34, 555, 38, 556, 557, 558, 37, 559, 145, 525, 526, 527, 528, 60, 194, 195, 560, 561, 562, 563, 564, 565, 566, 567, 568, 569, 570, 571, 572, 573, 574, 575, 576, 577, 578, 579, 247, 114, 248, 580, 581, 582, 583, 44, 584, 271, 272, 33, 273, 53, 54, 55, 266, 267, 268, 269, 48, 274, 275, 276, 277, 585, 586, 587, 588, 59, 589, 251, 252, 253, 42, 124, 254, 255, 256, 41, 257, 150, 64, 65, 258, 259, 260, 261, 66, 590, 591, 592, 593, 594, 950, 951, 952, 953, 966, 967, 968, 969, 970, 971, 972, 973, 974, 988, 989, 990, 991, 992, 993, 994, 995, 996, 997, 998, 999, 1000, 1001, 1002, 1003, 1004, 1005] (by decide +kernel) (by decide +kernel)
set_option maxRecDepth 20000 in
theorem gL_law_X7_problems : GoodIn wsL_law (wsV RL 103 RX7 yX7_problems wsX7_problems) := goodIn_app (goodIn_of _ (by decide +kernel)) ggL_law_X7_problems
set_option maxRecDepth 20000 in
theorem ggL_law_X8_problems : GoodIn wsL_law wsX8_problems := goodIn_r _ [867, 93, 868, 168, 169, 5, 170, 612, 613, 614, 615, 89, 616, 617, 618, 619, 620, 621, 622, 623, 624, 625, 626, 627, 628, 629, 630, 631, 632, 633, 634, 635, 636, 637, 638, 639, 640, 641, 642, 643, 308, 309, 310, 311, 312, 313, 314, 315, 644, 645, 646, 647, 316, 317, 318, 292, 293, 294, 295, 296, 297, 298, 299, 300, 301, 302, 303, 954, 955, 956, 957, 958, 959, 960, 961, 962, 963, 964, 965] (by decide +kernel) (by decide +kernel)
set_option maxRecDepth 20000 in
theorem gL_law_X8_problems : GoodIn wsL_law (wsV RL 106 RX8 yX8_problems wsX8_problems) := goodIn_app (goodIn_of _ (by decide +kernel)) ggL_law_X8_problems
set_option maxRecDepth 20000 in
theorem ggL_law_X7_misfit : GoodIn wsL_law wsX7_misfit := goodIn_r _ [872, 15, 98, 213, 189, 190, 191, 33, 192, 133, 517, 518, 519, 37, 520, 145, 873, 576, 577, 14, 578, 579, 247, 114, 248, 580, 581, 582, 583, 34, 38, 44, 584, 271, 272, 273, 53, 54, 55, 266, 267, 268, 269, 48, 194, 2, 195, 274, 275, 276, 277, 585, 586, 587, 588, 59, 950, 951, 952, 953, 966, 967, 968, 969, 970, 971, 972, 973, 974, 988, 989, 990, 991, 992, 993, 994, 995, 996, 997, 998, 999] (by decide +kernel) (by decide +kernel)
set_option maxRecDepth 20000 in
theorem gL_law_X7_misfit : GoodIn wsL_law (wsV RL 107 RX7 yX7_misfit wsX7_misfit) := goodIn_app (goodIn_of _ (by decide +kernel)) ggL_law_X7_misfit
set_option maxRecDepth 20000 in
theorem ggL_law_X8_misfit : GoodIn wsL_law wsX8_misfit := goodIn_r _ [877, 93, 201, 202, 203, 5, 204, 89, 168, 169, 170, 537, 538, 539, 540, 636, 637, 638, 639, 640, 641, 642, 643, 308, 309, 310, 311, 312, 313, 314, 315, 644, 645, 646, 647, 316, 317, 318, 954, 955, 956, 957, 958, 959, 960, 961, 962, 963, 964, 965] (by decide +kernel) (by decide +kernel)
set_option maxRecDepth 20000 in
theorem gL_law_X8_misfit : GoodIn wsL_law (wsV RL 110 RX8 yX8_misfit wsX8_misfit) := goodIn_app (goodIn_of _ (by decide +kernel)) ggL_law_X8_misfit
set_option maxRecDepth 20000 in
theorem ggL_law_X7_leastAlteration : GoodIn wsL_law wsX7_leastAlteration := goodIn_r _ [881, 15, 98, 213, 189, 190, 191, 33, 192, 133, 517, 518, 519, 37, 520, 145, 882, 883, 884, 14, 885, 34, 579, 247, 114, 248, 886, 279, 280, 281, 53, 194, 2, 195, 580, 581, 582, 583, 38, 44, 584, 271, 272, 273, 54, 55, 266, 267, 268, 269, 48, 274, 275, 276, 277, 585, 586, 587, 588, 59, 887, 263, 264, 265, 49, 270, 950, 951, 952, 953, 966, 967, 968, 969, 970, 971, 972, 973, 974, 988, 989, 990, 991, 992, 993, 994, 995, 996, 997, 998, 999] (by decide +kernel) (by decide +kernel)
set_option maxRecDepth 20000 in
theorem gL_law_X7_leastAlteration : GoodIn wsL_law (wsV RL 111 RX7 yX7_leastAlteration wsX7_leastAlteration) := goodIn_app (goodIn_of _ (by decide +kernel)) ggL_law_X7_leastAlteration
set_option maxRecDepth 20000 in
theorem ggL_law_X8_leastAlteration : GoodIn wsL_law wsX8_leastAlteration := goodIn_r _ [891, 93, 201, 202, 203, 5, 204, 89, 168, 169, 170, 537, 538, 539, 540, 892, 893, 894, 895, 290, 291, 640, 641, 642, 643, 308, 309, 310, 311, 312, 313, 314, 315, 644, 645, 646, 647, 304, 305, 306, 307, 316, 317, 318, 954, 955, 956, 957, 958, 959, 960, 961, 962, 963, 964, 965] (by decide +kernel) (by decide +kernel)
set_option maxRecDepth 20000 in
theorem gL_law_X8_leastAlteration : GoodIn wsL_law (wsV RL 114 RX8 yX8_leastAlteration wsX8_leastAlteration) := goodIn_app (goodIn_of _ (by decide +kernel)) ggL_law_X8_leastAlteration
set_option maxRecDepth 20000 in
theorem ggL_law_X7_costumeFor : GoodIn wsL_law wsX7_costumeFor := goodIn_r _ [899, 15, 213, 103, 104, 2, 105, 517, 518, 519, 37, 520, 145, 900, 901, 902, 14, 903, 34, 555, 904, 905, 906, 907, 908, 113, 114, 115, 909, 910, 911, 38, 589, 251, 252, 253, 42, 124, 254, 255, 256, 41, 257, 150, 64, 65, 194, 195, 258, 259, 260, 261, 66, 590, 591, 592, 593, 594, 44, 912, 913, 914, 915, 525, 526, 527, 528, 60, 568, 557, 558, 559, 916, 883, 884, 885, 579, 247, 248, 886, 279, 280, 33, 281, 53, 580, 581, 582, 583, 584, 271, 272, 273, 54, 55, 266, 267, 268, 269, 48, 274, 275, 276, 277, 585, 586, 587, 588, 59, 887, 263, 264, 265, 49, 270, 950, 951, 952, 953, 966, 967, 968, 969, 970, 971, 972, 973, 974, 997, 998, 999, 988, 989, 990, 991, 992, 993, 994, 995, 996, 1000, 1001, 1002, 1003, 1004, 1005] (by decide +kernel) (by decide +kernel)
set_option maxRecDepth 20000 in
theorem gL_law_X7_costumeFor : GoodIn wsL_law (wsV RL 115 RX7 yX7_costumeFor wsX7_costumeFor) := goodIn_app (goodIn_of _ (by decide +kernel)) ggL_law_X7_costumeFor
set_option maxRecDepth 20000 in
theorem ggL_law_X8_costumeFor : GoodIn wsL_law wsX8_costumeFor := goodIn_r _ [920, 93, 89, 533, 534, 5, 535, 536, 168, 169, 170, 537, 538, 539, 540, 921, 922, 923, 924, 620, 621, 622, 623, 624, 625, 626, 627, 292, 293, 294, 295, 296, 297, 298, 299, 300, 301, 302, 303, 312, 313, 314, 315, 892, 893, 894, 895, 290, 291, 640, 641, 642, 643, 308, 309, 310, 311, 644, 645, 646, 647, 304, 305, 306, 307, 316, 317, 318, 954, 955, 956, 957, 958, 959, 960, 961, 962, 963, 964, 965] (by decide +kernel) (by decide +kernel)
set_option maxRecDepth 20000 in
theorem gL_law_X8_costumeFor : GoodIn wsL_law (wsV RL 118 RX8 yX8_costumeFor wsX8_costumeFor) := goodIn_app (goodIn_of _ (by decide +kernel)) ggL_law_X8_costumeFor
set_option maxRecDepth 20000 in
theorem ggL_law_X7_freeFrom : GoodIn wsL_law wsX7_freeFrom := goodIn_r _ [928, 15, 98, 665, 545, 189, 190, 191, 33, 192, 133, 103, 104, 2, 105, 929, 930, 931, 41, 932, 933, 255, 256, 257, 150, 64, 65, 194, 195, 258, 259, 260, 261, 66, 950, 951, 952, 953, 966, 967, 968, 969, 970, 971, 972, 973, 974, 988, 989, 990, 991, 992, 993, 994, 995, 996, 1000, 1001, 1002, 1003, 1004, 1005] (by decide +kernel) (by decide +kernel)
set_option maxRecDepth 20000 in
theorem gL_law_X7_freeFrom : GoodIn wsL_law (wsV RL 119 RX7 yX7_freeFrom wsX7_freeFrom) := goodIn_app (goodIn_of _ (by decide +kernel)) ggL_law_X7_freeFrom
set_option maxRecDepth 20000 in
theorem ggL_law_X8_freeFrom : GoodIn wsL_law wsX8_freeFrom := goodIn_r _ [937, 93, 660, 89, 201, 202, 203, 5, 204, 168, 169, 170, 682, 683, 684, 685, 300, 301, 302, 303, 954, 955, 956, 957, 958, 959, 960, 961, 962, 963, 964, 965] (by decide +kernel) (by decide +kernel)
set_option maxRecDepth 20000 in
theorem gL_law_X8_freeFrom : GoodIn wsL_law (wsV RL 122 RX8 yX8_freeFrom wsX8_freeFrom) := goodIn_app (goodIn_of _ (by decide +kernel)) ggL_law_X8_freeFrom
set_option maxRecDepth 20000 in
theorem ggL_law_X7_washable : GoodIn wsL_law wsX7_washable := goodIn_r _ [941, 15, 716, 717, 2, 718, 103, 104, 105, 942, 943, 944, 14, 945, 34, 555, 727, 594, 194, 195, 589, 251, 252, 253, 42, 124, 254, 255, 256, 41, 257, 150, 64, 65, 258, 259, 260, 261, 66, 737, 738, 739, 33, 740, 50, 735, 736, 950, 951, 952, 953, 966, 967, 968, 969, 970, 971, 972, 973, 974, 988, 989, 990, 991, 992, 993, 994, 995, 996, 1000, 1001, 1002, 1003, 1004, 1005] (by decide +kernel) (by decide +kernel)
set_option maxRecDepth 20000 in
theorem gL_law_X7_washable : GoodIn wsL_law (wsV RL 123 RX7 yX7_washable wsX7_washable) := goodIn_app (goodIn_of _ (by decide +kernel)) ggL_law_X7_washable
set_option maxRecDepth 20000 in
theorem ggL_law_X8_washable : GoodIn wsL_law wsX8_washable := goodIn_r _ [949, 93, 162, 89, 168, 169, 5, 170, 312, 313, 314, 315, 292, 293, 294, 295, 296, 297, 298, 299, 300, 301, 302, 303, 756, 757, 758, 954, 955, 956, 957, 958, 959, 960, 961, 962, 963, 964, 965] (by decide +kernel) (by decide +kernel)
set_option maxRecDepth 20000 in
theorem gL_law_X8_washable : GoodIn wsL_law (wsV RL 126 RX8 yX8_washable wsX8_washable) := goodIn_app (goodIn_of _ (by decide +kernel)) ggL_law_X8_washable
