/-! LAW: the words of what it calls (7) -/
set_option maxRecDepth 20000 in
theorem ghL_act_c : GoodIn wsL_law [.code yL_act cL_act 3 (some .int)] := goodIn_r _ [210] (by decide +kernel) (by decide +kernel)
set_option maxRecDepth 20000 in
theorem ghL_act_wsL_act_r1 : GoodIn wsL_law wsL_act_r1 := goodIn_r _ [45, 46, 43, 47, 48, 49, 50, 51, 2, 52, 12, 53, 54, 55, 56, 57, 58, 59, 60, 61, 62, 11, 63, 64] (by decide +kernel) (by decide +kernel)
set_option maxRecDepth 20000 in
theorem ghL_act_wsL_act_r2 : GoodIn wsL_law wsL_act_r2 := goodIn_r _ [65, 66, 67, 68, 15, 14, 69, 70, 71, 72, 73, 74, 75, 76, 25, 27, 77, 78, 79, 80, 81, 28, 82, 83] (by decide +kernel) (by decide +kernel)
set_option maxRecDepth 20000 in
theorem ghL_act_wsL_act_r3 : GoodIn wsL_law wsL_act_r3 := goodIn_r _ [84, 30, 85, 36, 86, 87, 88, 89, 90, 91, 92, 93, 94, 95, 96, 97, 98, 99, 100, 101, 102, 103, 104, 105] (by decide +kernel) (by decide +kernel)
set_option maxRecDepth 20000 in
theorem ghL_act_wsL_act_r4 : GoodIn wsL_law wsL_act_r4 := goodIn_r _ [211, 212, 213, 214, 189, 190, 191, 192, 215, 216, 217, 218, 219, 220, 221, 222, 184, 186, 193, 194, 195, 196, 223, 224] (by decide +kernel) (by decide +kernel)
set_option maxRecDepth 20000 in
theorem ghL_act_wsL_act_r5 : GoodIn wsL_law wsL_act_r5 := goodIn_r _ [225, 226, 227, 228, 229, 230, 115, 231, 232, 233, 234, 235, 236, 237, 238, 239, 240, 241, 242, 243, 244, 245, 246, 247] (by decide +kernel) (by decide +kernel)
set_option maxRecDepth 20000 in
theorem ghL_act_wsL_act_r6 : GoodIn wsL_law wsL_act_r6 := goodIn_r _ [248, 249, 250, 251, 252, 253, 254, 116, 255, 256, 257, 258, 118, 119, 120, 121, 259, 260, 261, 262, 263, 264, 265, 266] (by decide +kernel) (by decide +kernel)
set_option maxRecDepth 20000 in
theorem ghL_act_wsL_act_r7 : GoodIn wsL_law wsL_act_r7 := goodIn_r _ [267, 268, 269, 270, 271, 32, 272, 273, 274, 275, 276, 277, 278, 279, 280, 281, 282, 283, 284, 285, 286, 31, 287, 288] (by decide +kernel) (by decide +kernel)
set_option maxRecDepth 20000 in
theorem ghL_act_wsL_act_r8 : GoodIn wsL_law wsL_act_r8 := goodIn_r _ [289, 290, 126, 127, 128, 129, 130, 131, 132, 133, 134, 135, 136, 137, 138, 139, 140, 141, 142, 143, 144, 145, 146, 147] (by decide +kernel) (by decide +kernel)
set_option maxRecDepth 20000 in
theorem ghL_act_wsL_act_r9 : GoodIn wsL_law wsL_act_r9 := goodIn_r _ [148, 149, 150, 151, 152, 153, 154, 155, 156, 157, 158, 159, 160, 161, 162, 163, 164, 165, 166, 167, 168, 169, 170, 171] (by decide +kernel) (by decide +kernel)
set_option maxRecDepth 20000 in
theorem ghL_act_wsL_act_r10 : GoodIn wsL_law wsL_act_r10 := goodIn_r _ [172, 173, 174, 175, 176, 177, 178, 179, 291, 292, 293, 294, 295, 296, 297, 298, 299, 300, 301, 302] (by decide +kernel) (by decide +kernel)
set_option maxRecDepth 20000 in
theorem ghL_act_wsX30 : GoodIn wsL_law wsX30 := goodIn_r _ [461, 462, 463, 464, 465] (by decide +kernel) (by decide +kernel)
set_option maxRecDepth 20000 in
theorem ghL_act_wsX00 : GoodIn wsL_law wsX00 := goodIn_r _ [466, 467, 468, 469, 470, 471, 472] (by decide +kernel) (by decide +kernel)
set_option maxRecDepth 20000 in
theorem ghL_act_wsX20 : GoodIn wsL_law wsX20 := goodIn_r _ [478, 479, 480, 481, 482, 483, 484, 485, 486] (by decide +kernel) (by decide +kernel)
theorem ggL_law_L_act : GoodIn wsL_law wsL_act := goodIn_app ghL_act_c (goodIn_app (goodIn_app (goodIn_app (goodIn_app ghL_act_wsL_act_r1 (goodIn_app ghL_act_wsL_act_r2 (goodIn_app ghL_act_wsL_act_r3 (goodIn_app ghL_act_wsL_act_r4 (goodIn_app ghL_act_wsL_act_r5 (goodIn_app ghL_act_wsL_act_r6 (goodIn_app ghL_act_wsL_act_r7 (goodIn_app ghL_act_wsL_act_r8 (goodIn_app ghL_act_wsL_act_r9 ghL_act_wsL_act_r10))))))))) ghL_act_wsX30) ghL_act_wsX00) ghL_act_wsX20)
