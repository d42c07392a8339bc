theorem gp_act_h : GoodIn wsL_law [.code yL_act cL_act 3 (some .int)] := goodIn_r _ [327] (by decide +kernel) (by decide +kernel)
set_option maxRecDepth 20000 in
theorem gp_act_p0 : GoodIn wsL_law wsL_act_r1 := goodIn_r _ [86, 87, 84, 88, 89, 90, 91, 92, 2, 93, 12, 94, 95, 16, 96, 97, 98, 99, 100, 101, 102, 103, 104, 15] (by decide +kernel) (by decide +kernel)
set_option maxRecDepth 20000 in
theorem gp_act_p1 : GoodIn wsL_law wsL_act_r2 := goodIn_r _ [105, 106, 107, 108, 109, 110, 111, 112, 113, 114, 115, 71, 116, 117, 118, 11, 119, 31, 35, 39, 41, 120, 121, 122] (by decide +kernel) (by decide +kernel)
set_option maxRecDepth 20000 in
theorem gp_act_p2 : GoodIn wsL_law wsL_act_r3 := goodIn_r _ [123, 124, 125, 126, 127, 30, 128, 129, 45, 46, 47, 48, 49, 50, 51, 52, 130, 131, 132, 133, 134, 135, 136, 137] (by decide +kernel) (by decide +kernel)
set_option maxRecDepth 20000 in
theorem gp_act_p3 : GoodIn wsL_law wsL_act_r4 := goodIn_r _ [138, 139, 34, 140, 141, 56, 57, 142, 143, 144, 38, 145, 146, 61, 62, 63, 64, 65, 147, 148, 149, 150, 151, 152] (by decide +kernel) (by decide +kernel)
set_option maxRecDepth 20000 in
theorem gp_act_p4 : GoodIn wsL_law wsL_act_r5 := goodIn_r _ [153, 154, 155, 156, 157, 158, 159, 160, 161, 162, 328, 329, 330, 331, 216, 219, 220, 221, 222, 209, 190, 191, 332, 333] (by decide +kernel) (by decide +kernel)
set_option maxRecDepth 20000 in
theorem gp_act_p5 : GoodIn wsL_law wsL_act_r6 := goodIn_r _ [334, 335, 336, 181, 337, 338, 339, 340, 341, 342, 343, 344, 312, 313, 175, 345, 198, 199, 200, 201, 202, 203, 204, 205] (by decide +kernel) (by decide +kernel)
set_option maxRecDepth 20000 in
theorem gp_act_p6 : GoodIn wsL_law wsL_act_r7 := goodIn_r _ [206, 207, 208, 346, 347, 348, 349, 227, 228, 229, 230, 350, 224, 225, 226, 231, 232, 233, 234, 351, 352, 353, 354, 355] (by decide +kernel) (by decide +kernel)
set_option maxRecDepth 20000 in
theorem gp_act_p7 : GoodIn wsL_law wsL_act_r8 := goodIn_r _ [356, 357, 358, 359, 360, 361, 362, 218, 363, 364, 365, 366, 367, 368, 369, 370, 259, 260, 261, 262, 371, 372, 373, 374] (by decide +kernel) (by decide +kernel)
set_option maxRecDepth 20000 in
theorem gp_act_p8 : GoodIn wsL_law wsL_act_r9 := goodIn_r _ [186, 187, 188, 189, 375, 376, 377, 378, 174, 178, 284, 285, 286, 287, 288, 289, 290, 291, 196, 292, 241, 242, 243, 293] (by decide +kernel) (by decide +kernel)
set_option maxRecDepth 20000 in
theorem gp_act_p9 : GoodIn wsL_law wsL_act_r10 := goodIn_r _ [294, 295, 296, 297, 298, 299, 300, 240, 301, 302, 303, 304, 305, 306, 307, 308, 309, 310, 311, 314, 315, 316, 317, 318] (by decide +kernel) (by decide +kernel)
set_option maxRecDepth 20000 in
theorem gp_act_p10 : GoodIn wsL_law wsL_act_r11 := goodIn_r _ [319, 264, 265, 266, 197, 320, 321, 322, 323, 324, 379, 380, 381, 382, 383, 237, 238, 239, 384, 385, 386, 387, 388, 389] (by decide +kernel) (by decide +kernel)
set_option maxRecDepth 20000 in
theorem gp_act_p11 : GoodIn wsL_law wsL_act_r12 := goodIn_r _ [390, 391, 392, 168, 169, 170, 171, 172, 173, 176, 177, 179, 20, 180, 182, 183, 184, 185, 192, 193, 194, 195, 393, 394] (by decide +kernel) (by decide +kernel)
set_option maxRecDepth 20000 in
theorem gp_act_p12 : GoodIn wsL_law wsL_act_r13 := goodIn_r _ [395, 396, 397, 398, 399, 400, 401, 402, 403, 404, 405, 406, 407, 408, 276, 277, 278, 279, 409, 410, 411, 412, 413, 414] (by decide +kernel) (by decide +kernel)
set_option maxRecDepth 20000 in
theorem gp_act_p13 : GoodIn wsL_law wsL_act_r14 := goodIn_r _ [415, 416, 417, 418, 419, 420, 421, 422, 423, 424, 425, 426, 427, 428, 429, 430, 431, 432, 433, 434, 435, 436, 437, 438] (by decide +kernel) (by decide +kernel)
set_option maxRecDepth 20000 in
theorem gp_act_p14 : GoodIn wsL_law wsL_act_r15 := goodIn_r _ [439, 440, 441, 442, 443, 444, 445, 446, 447, 448, 449, 450, 451] (by decide +kernel) (by decide +kernel)
set_option maxRecDepth 20000 in
theorem gp_act_p15 : GoodIn wsL_law wsX70 := goodIn_r _ [636, 637, 638, 639] (by decide +kernel) (by decide +kernel)
set_option maxRecDepth 20000 in
theorem gp_act_p16 : GoodIn wsL_law wsX40 := goodIn_r _ [640, 641, 642, 643, 644, 645, 646, 647, 648] (by decide +kernel) (by decide +kernel)
set_option maxRecDepth 20000 in
theorem gp_act_p17 : GoodIn wsL_law wsX60 := goodIn_r _ [662, 663, 664, 665, 666, 667, 668, 669, 670] (by decide +kernel) (by decide +kernel)
set_option maxRecDepth 20000 in
theorem gp_act_p18 : GoodIn wsL_law wsX20 := goodIn_r _ [649, 650, 651] (by decide +kernel) (by decide +kernel)
set_option maxRecDepth 20000 in
theorem gp_act_p19 : GoodIn wsL_law wsX00 := goodIn_r _ [671, 672, 673] (by decide +kernel) (by decide +kernel)
set_option maxRecDepth 20000 in
theorem gp_act_p20 : GoodIn wsL_law wsX10 := goodIn_r _ [674, 675, 676, 677, 678, 679] (by decide +kernel) (by decide +kernel)
set_option maxRecDepth 20000 in
theorem gp_act_p21 : GoodIn wsL_law wsX50 := goodIn_r _ [652, 653] (by decide +kernel) (by decide +kernel)
theorem ggL_law_L_act : GoodIn wsL_law wsL_act := goodIn_app gp_act_h (goodIn_app (goodIn_app (goodIn_app (goodIn_app (goodIn_app (goodIn_app (goodIn_app (goodIn_app gp_act_p0 (goodIn_app gp_act_p1 (goodIn_app gp_act_p2 (goodIn_app gp_act_p3 (goodIn_app gp_act_p4 (goodIn_app gp_act_p5 (goodIn_app gp_act_p6 (goodIn_app gp_act_p7 (goodIn_app gp_act_p8 (goodIn_app gp_act_p9 (goodIn_app gp_act_p10 (goodIn_app gp_act_p11 (goodIn_app gp_act_p12 (goodIn_app gp_act_p13 gp_act_p14)))))))))))))) gp_act_p15) gp_act_p16) gp_act_p17) gp_act_p18) gp_act_p19) gp_act_p20) gp_act_p21)
set_option maxRecDepth 20000 in
theorem gL_law_L_act : GoodIn wsL_law (va_wsS RL 100 yL_act wsL_act) := goodIn_app (goodIn_of _ (by decide +kernel)) ggL_law_L_act
