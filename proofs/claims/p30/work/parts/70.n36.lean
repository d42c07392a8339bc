theorem gp_isRight_h : GoodIn wsL_law [.code yL_isRight cL_isRight 10 (some .boolean)] := fun w h => by
  have e := List.mem_singleton.mp h
  subst e
  exact ⟨(List.mem_append_left _ (List.mem_append_left _ (List.mem_append_left _ (List.mem_append_left _ (List.mem_append_left _ (List.mem_append_left _ (List.mem_append_left _ (List.mem_append_left _ (List.mem_append_left _ (List.mem_append_right _ (List.mem_append_right _ (List.mem_append_right _ (List.mem_append_right _ (List.mem_append_right _ (List.mem_append_right _ (List.mem_append_right _ (List.mem_append_right _ (List.mem_append_right _ (List.mem_append_right _ (List.mem_append_right _ (List.mem_append_right _ (List.mem_append_right _ (List.mem_append_right _ (List.mem_append_right _ (List.mem_append_right _ (List.mem_append_right _ (List.mem_append_right _ (List.mem_append_left _ (List.mem_of_getElem? (i := 22) rfl))))))))))))))))))))))))))))), Or.inl rfl⟩
set_option maxRecDepth 20000 in
theorem gp_isRight_p0 : GoodIn wsL_law wsL_isRight_r1 := goodIn_r _ [168, 169, 170, 2, 171, 12, 94, 95, 157, 158, 172, 173, 174, 175, 176, 177, 178, 16, 179, 20, 180, 181, 182, 183] (by decide +kernel) (by decide +kernel)
set_option maxRecDepth 20000 in
theorem gp_isRight_p1 : GoodIn wsL_law wsL_isRight_r2 := goodIn_r _ [184, 34, 185, 141, 186, 187, 188, 189, 57, 190, 191, 192, 193, 194, 11, 195, 31, 196, 197, 198, 199, 200, 39, 120] (by decide +kernel) (by decide +kernel)
set_option maxRecDepth 20000 in
theorem gp_isRight_p2 : GoodIn wsL_law wsL_isRight_r3 := goodIn_r _ [201, 202, 203, 38, 204, 146, 61, 62, 205, 206, 207, 208, 63, 99, 100, 101, 209, 210, 211, 212, 213, 214, 215, 216] (by decide +kernel) (by decide +kernel)
set_option maxRecDepth 20000 in
theorem gp_isRight_p3 : GoodIn wsL_law wsL_isRight_r4 := goodIn_r _ [217, 218, 219, 220, 221, 30, 222, 129, 223, 224, 225, 226, 50, 51, 52, 227, 228, 229, 230, 45, 231, 232, 233, 234] (by decide +kernel) (by decide +kernel)
set_option maxRecDepth 20000 in
theorem gp_isRight_p4 : GoodIn wsL_law wsL_isRight_r5 := goodIn_r _ [235, 236, 237, 238, 239, 240, 241, 242, 243, 244, 245, 246, 247, 248, 249, 250, 251, 252, 253, 254, 455, 456, 457, 458] (by decide +kernel) (by decide +kernel)
set_option maxRecDepth 20000 in
theorem gp_isRight_p5 : GoodIn wsL_law wsL_isRight_r6 := goodIn_r _ [259, 260, 261, 262, 459, 308, 309, 310, 311, 312, 110, 313, 314, 315, 316, 317, 35, 41, 318, 319, 264, 265, 266, 56] (by decide +kernel) (by decide +kernel)
set_option maxRecDepth 20000 in
theorem gp_isRight_p6 : GoodIn wsL_law wsL_isRight_r7 := goodIn_r _ [460, 461, 462, 463, 464, 465, 466, 467, 468, 352, 353, 354, 469, 347, 348, 349, 46, 350, 470, 471, 472, 473, 474, 475] (by decide +kernel) (by decide +kernel)
set_option maxRecDepth 20000 in
theorem gp_isRight_p7 : GoodIn wsL_law wsL_isRight_r8 := goodIn_r _ [476, 477, 478, 268, 269, 270, 271, 272, 273, 274, 275, 276, 277, 278, 279, 479, 480, 481, 482, 423, 424, 425, 483, 484] (by decide +kernel) (by decide +kernel)
set_option maxRecDepth 20000 in
theorem gp_isRight_p8 : GoodIn wsL_law wsL_isRight_r9 := goodIn_r _ [485, 486, 434, 324, 444, 445, 446, 447, 47, 442, 443, 280, 281, 282, 283, 284, 285, 286, 287, 288, 289, 290, 291, 292] (by decide +kernel) (by decide +kernel)
set_option maxRecDepth 20000 in
theorem gp_isRight_p9 : GoodIn wsL_law wsL_isRight_r10 := goodIn_r _ [293, 294, 295, 296, 297, 298, 299, 300, 301, 302, 303, 304, 305, 306, 307, 320, 321, 322, 323] (by decide +kernel) (by decide +kernel)
set_option maxRecDepth 20000 in
theorem gp_isRight_p10 : GoodIn wsL_law wsX70 := goodIn_r _ [636, 637, 638, 639] (by decide +kernel) (by decide +kernel)
set_option maxRecDepth 20000 in
theorem gp_isRight_p11 : GoodIn wsL_law wsX40 := goodIn_r _ [640, 641, 642, 643, 644, 645, 646, 647, 648] (by decide +kernel) (by decide +kernel)
set_option maxRecDepth 20000 in
theorem gp_isRight_p12 : GoodIn wsL_law wsX60 := goodIn_r _ [662, 663, 664, 665, 666, 667, 668, 669, 670] (by decide +kernel) (by decide +kernel)
set_option maxRecDepth 20000 in
theorem gp_isRight_p13 : GoodIn wsL_law wsX00 := goodIn_r _ [671, 672, 673] (by decide +kernel) (by decide +kernel)
set_option maxRecDepth 20000 in
theorem gp_isRight_p14 : GoodIn wsL_law wsX10 := goodIn_r _ [674, 675, 676, 677, 678, 679] (by decide +kernel) (by decide +kernel)
set_option maxRecDepth 20000 in
theorem gp_isRight_p15 : GoodIn wsL_law wsX20 := goodIn_r _ [649, 650, 651] (by decide +kernel) (by decide +kernel)
set_option maxRecDepth 20000 in
theorem gp_isRight_p16 : GoodIn wsL_law wsX50 := goodIn_r _ [652, 653] (by decide +kernel) (by decide +kernel)
theorem ggL_law_L_isRight : GoodIn wsL_law wsL_isRight := goodIn_app gp_isRight_h (goodIn_app (goodIn_app (goodIn_app (goodIn_app (goodIn_app (goodIn_app (goodIn_app (goodIn_app gp_isRight_p0 (goodIn_app gp_isRight_p1 (goodIn_app gp_isRight_p2 (goodIn_app gp_isRight_p3 (goodIn_app gp_isRight_p4 (goodIn_app gp_isRight_p5 (goodIn_app gp_isRight_p6 (goodIn_app gp_isRight_p7 (goodIn_app gp_isRight_p8 gp_isRight_p9))))))))) gp_isRight_p10) gp_isRight_p11) gp_isRight_p12) gp_isRight_p13) gp_isRight_p14) gp_isRight_p15) gp_isRight_p16)
set_option maxRecDepth 20000 in
theorem gL_law_L_isRight : GoodIn wsL_law (va_wsS RL 104 yL_isRight wsL_isRight) := goodIn_app (goodIn_of _ (by decide +kernel)) ggL_law_L_isRight
