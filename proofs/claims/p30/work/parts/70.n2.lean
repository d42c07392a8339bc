set_option maxRecDepth 20000 in
theorem ggL_isRight_X7_count : GoodIn wsL_isRight wsX7_count := goodIn_r _ [5, 6, 7, 8, 9, 10, 11, 12, 13, 14, 15, 16, 17, 18, 19, 20, 21, 22, 23, 24, 25, 26, 27, 28, 29, 30, 31, 32, 33, 34, 4, 35, 36, 37, 38, 39, 40, 41, 42, 43, 44, 45, 46, 47, 48, 49, 50, 51, 52, 53, 54, 55, 56, 57, 58, 59, 60, 61, 62, 63, 64, 65, 236, 237, 238, 239, 240, 241, 242, 243, 244, 245, 246, 247, 248, 249, 250, 251, 252, 253, 254, 255, 256, 257, 258, 259, 260, 261, 262, 263, 264, 265, 266, 267, 268, 269, 270, 271] (by decide +kernel) (by decide +kernel)
set_option maxRecDepth 20000 in
theorem gL_isRight_X7_count : GoodIn wsL_isRight (wsV RL 12 RX7 yX7_count wsX7_count) := goodIn_app (goodIn_of _ (by decide +kernel)) ggL_isRight_X7_count
set_option maxRecDepth 20000 in
theorem ggL_isRight_X7_costume : GoodIn wsL_isRight wsX7_costume := goodIn_r _ [69, 6, 7, 70, 71, 72, 73, 74, 9, 11, 75, 76, 77, 78, 79, 80, 81, 82, 83, 84, 85, 86, 87, 88, 89, 90, 91, 92, 34, 4, 35, 93, 94, 95, 96, 97, 65, 98, 99, 100, 26, 101, 102, 103, 104, 105, 28, 29, 30, 31, 32, 33, 106, 107, 108, 52, 109, 54, 55, 236, 237, 238, 239, 240, 241, 242, 243, 244, 245, 246, 247, 248, 249, 250, 251, 252, 253, 254, 255, 256, 257, 258, 259, 260, 261, 262, 263, 264, 265, 266] (by decide +kernel) (by decide +kernel)
set_option maxRecDepth 20000 in
theorem gL_isRight_X7_costume : GoodIn wsL_isRight (wsV RL 18 RX7 yX7_costume wsX7_costume) := goodIn_app (goodIn_of _ (by decide +kernel)) ggL_isRight_X7_costume
set_option maxRecDepth 20000 in
theorem ggL_isRight_X7_alteration : GoodIn wsL_isRight wsX7_alteration := goodIn_r _ [113, 6, 7, 74, 114, 115, 75, 76, 77, 78, 79, 80, 62, 63, 4, 64, 65, 34, 35, 116, 94, 95, 96, 236, 237, 238, 239, 240, 241, 242, 243, 244, 245, 246, 247, 248, 249, 250, 251, 252, 253, 254, 255, 256, 257] (by decide +kernel) (by decide +kernel)
set_option maxRecDepth 20000 in
theorem gL_isRight_X7_alteration : GoodIn wsL_isRight (wsV RL 22 RX7 yX7_alteration wsX7_alteration) := goodIn_app (goodIn_of _ (by decide +kernel)) ggL_isRight_X7_alteration
set_option maxRecDepth 20000 in
theorem ggL_isRight_X7_misfit : GoodIn wsL_isRight wsX7_misfit := goodIn_r _ [120, 6, 7, 9, 75, 76, 77, 78, 79, 80, 121, 122, 123, 26, 124, 28, 125, 126, 127, 39, 128, 129, 130, 131, 132, 133, 134, 135, 136, 41, 137, 138, 139, 82, 83, 84, 85, 86, 87, 88, 89, 90, 91, 92, 34, 4, 35, 93, 94, 95, 96, 140, 141, 142, 143, 144, 236, 237, 238, 239, 240, 241, 242, 243, 244, 245, 246, 247, 248, 249, 250, 251, 252, 253, 254, 255, 256, 257, 258, 259, 260] (by decide +kernel) (by decide +kernel)
set_option maxRecDepth 20000 in
theorem gL_isRight_X7_misfit : GoodIn wsL_isRight (wsV RL 76 RX7 yX7_misfit wsX7_misfit) := goodIn_app (goodIn_of _ (by decide +kernel)) ggL_isRight_X7_misfit
set_option maxRecDepth 20000 in
theorem ggL_isRight_X7_leastAlteration : GoodIn wsL_isRight wsX7_leastAlteration := goodIn_r _ [148, 6, 7, 9, 75, 76, 77, 78, 79, 80, 121, 122, 123, 26, 124, 28, 149, 150, 151, 39, 152, 41, 129, 130, 131, 132, 153, 154, 155, 156, 85, 34, 4, 35, 133, 134, 135, 136, 137, 138, 139, 82, 83, 84, 86, 87, 88, 89, 90, 91, 92, 93, 94, 95, 96, 140, 141, 142, 143, 144, 157, 158, 159, 160, 161, 162, 236, 237, 238, 239, 240, 241, 242, 243, 244, 245, 246, 247, 248, 249, 250, 251, 252, 253, 254, 255, 256, 257, 258, 259, 260] (by decide +kernel) (by decide +kernel)
set_option maxRecDepth 20000 in
theorem gL_isRight_X7_leastAlteration : GoodIn wsL_isRight (wsV RL 79 RX7 yX7_leastAlteration wsX7_leastAlteration) := goodIn_app (goodIn_of _ (by decide +kernel)) ggL_isRight_X7_leastAlteration
set_option maxRecDepth 20000 in
theorem ggL_isRight_X7_freeFrom : GoodIn wsL_isRight wsX7_freeFrom := goodIn_r _ [166, 6, 7, 11, 13, 75, 76, 77, 78, 79, 80, 62, 63, 4, 64, 167, 168, 169, 52, 170, 171, 50, 51, 53, 54, 55, 56, 34, 35, 57, 58, 59, 60, 61, 236, 237, 238, 239, 240, 241, 242, 243, 244, 245, 246, 247, 248, 249, 250, 251, 252, 253, 254, 255, 256, 257, 261, 262, 263, 264, 265, 266] (by decide +kernel) (by decide +kernel)
set_option maxRecDepth 20000 in
theorem gL_isRight_X7_freeFrom : GoodIn wsL_isRight (wsV RL 82 RX7 yX7_freeFrom wsX7_freeFrom) := goodIn_app (goodIn_of _ (by decide +kernel)) ggL_isRight_X7_freeFrom
set_option maxRecDepth 20000 in
theorem ggL_isRight_X7_hired : GoodIn wsL_isRight wsX7_hired := goodIn_r _ [175, 6, 11, 176, 177, 178, 179, 180, 181, 182, 52, 183, 54, 65, 34, 4, 35, 236, 237, 238, 239, 240, 241, 242, 243, 244, 245, 246, 247, 248, 261, 262, 263, 264, 265, 266] (by decide +kernel) (by decide +kernel)
set_option maxRecDepth 20000 in
theorem gL_isRight_X7_hired : GoodIn wsL_isRight (wsV RL 29 RX7 yX7_hired wsX7_hired) := goodIn_app (goodIn_of _ (by decide +kernel)) ggL_isRight_X7_hired
set_option maxRecDepth 20000 in
theorem ggL_isRight_X7_washable : GoodIn wsL_isRight wsX7_washable := goodIn_r _ [187, 6, 188, 189, 4, 190, 62, 63, 64, 191, 192, 193, 39, 194, 41, 42, 195, 196, 34, 35, 43, 44, 45, 46, 47, 48, 49, 50, 51, 52, 53, 54, 55, 56, 57, 58, 59, 60, 61, 197, 198, 199, 78, 200, 201, 202, 203, 236, 237, 238, 239, 240, 241, 242, 243, 244, 245, 246, 247, 248, 249, 250, 251, 252, 253, 254, 255, 256, 257, 261, 262, 263, 264, 265, 266] (by decide +kernel) (by decide +kernel)
set_option maxRecDepth 20000 in
theorem gL_isRight_X7_washable : GoodIn wsL_isRight (wsV RL 85 RX7 yX7_washable wsX7_washable) := goodIn_app (goodIn_of _ (by decide +kernel)) ggL_isRight_X7_washable
set_option maxRecDepth 20000 in
theorem ggL_isRight_X7_problems : GoodIn wsL_isRight wsX7_problems := goodIn_r _ [207, 6, 62, 63, 4, 64, 208, 209, 210, 39, 211, 212, 213, 214, 215, 41, 42, 137, 216, 103, 104, 26, 105, 28, 29, 30, 31, 32, 33, 34, 35, 217, 218, 219, 220, 221, 222, 223, 224, 102, 225, 226, 227, 228, 229, 230, 231, 126, 127, 128, 129, 130, 131, 132, 133, 134, 135, 136, 138, 139, 82, 83, 78, 84, 85, 86, 87, 88, 89, 90, 91, 92, 93, 94, 95, 96, 140, 141, 142, 143, 144, 43, 44, 45, 46, 47, 48, 49, 50, 51, 52, 53, 54, 55, 56, 57, 58, 59, 60, 61, 232, 233, 234, 235, 196, 236, 237, 238, 239, 240, 241, 242, 243, 244, 245, 246, 247, 248, 249, 250, 251, 252, 253, 254, 255, 256, 257, 258, 259, 260, 261, 262, 263, 264, 265, 266] (by decide +kernel) (by decide +kernel)
set_option maxRecDepth 20000 in
theorem gL_isRight_X7_problems : GoodIn wsL_isRight (wsV RL 88 RX7 yX7_problems wsX7_problems) := goodIn_app (goodIn_of _ (by decide +kernel)) ggL_isRight_X7_problems
