/-! LAW: the words of what it calls (5) -/
set_option maxRecDepth 20000 in
theorem ghL_digest_c : GoodIn wsL_law [.code yL_digest cL_digest 5 (some .long)] := goodIn_r _ [108] (by decide +kernel) (by decide +kernel)
set_option maxRecDepth 20000 in
theorem ghL_digest_wsL_digest_r1 : GoodIn wsL_law wsL_digest_r1 := goodIn_r _ [109, 110, 111, 112, 113, 2, 114, 12, 53, 115, 116, 15, 19, 117, 118, 119, 120, 11, 121, 64, 25, 105, 122, 123] (by decide +kernel) (by decide +kernel)
set_option maxRecDepth 20000 in
theorem ghL_digest_wsL_digest_r2 : GoodIn wsL_law wsL_digest_r2 := goodIn_r _ [124, 125, 126, 127, 128, 129, 130, 101, 131, 132, 133, 134, 135, 136, 137, 138, 139, 140, 30, 141, 91, 142, 143, 144] (by decide +kernel) (by decide +kernel)
set_option maxRecDepth 20000 in
theorem ghL_digest_wsL_digest_r3 : GoodIn wsL_law wsL_digest_r3 := goodIn_r _ [145, 104, 81, 27, 146, 147, 148, 149, 88, 89, 90, 150, 151, 152, 153, 154, 155, 156, 157, 94, 87, 93, 158, 159] (by decide +kernel) (by decide +kernel)
set_option maxRecDepth 20000 in
theorem ghL_digest_wsL_digest_r4 : GoodIn wsL_law wsL_digest_r4 := goodIn_r _ [160, 161, 28, 162, 163, 164, 165, 166, 100, 167, 168, 169, 170, 171, 172, 173, 174, 175, 176, 177, 178, 179, 180, 181] (by decide +kernel) (by decide +kernel)
set_option maxRecDepth 20000 in
theorem ghL_digest_wsL_digest_r5 : GoodIn wsL_law wsL_digest_r5 := goodIn_r _ [182, 183, 184, 185, 186, 187, 188, 189, 190, 191, 192, 54, 55, 56, 193, 194, 195, 196, 197, 198, 199, 200, 201, 202] (by decide +kernel) (by decide +kernel)
set_option maxRecDepth 20000 in
theorem ghL_digest_wsL_digest_r6 : GoodIn wsL_law wsL_digest_r6 := goodIn_r _ [203, 204, 205, 206, 207] (by decide +kernel) (by decide +kernel)
set_option maxRecDepth 20000 in
theorem ghL_digest_wsX30 : GoodIn wsL_law wsX30 := goodIn_r _ [461, 462, 463, 464, 465] (by decide +kernel) (by decide +kernel)
set_option maxRecDepth 20000 in
theorem ghL_digest_wsX00 : GoodIn wsL_law wsX00 := goodIn_r _ [466, 467, 468, 469, 470, 471, 472] (by decide +kernel) (by decide +kernel)
set_option maxRecDepth 20000 in
theorem ghL_digest_wsX10 : GoodIn wsL_law wsX10 := goodIn_r _ [473, 474, 475, 476, 477] (by decide +kernel) (by decide +kernel)
set_option maxRecDepth 20000 in
theorem ghL_digest_wsX20 : GoodIn wsL_law wsX20 := goodIn_r _ [478, 479, 480, 481, 482, 483, 484, 485, 486] (by decide +kernel) (by decide +kernel)
theorem ggL_law_L_digest : GoodIn wsL_law wsL_digest := goodIn_app ghL_digest_c (goodIn_app (goodIn_app (goodIn_app (goodIn_app (goodIn_app ghL_digest_wsL_digest_r1 (goodIn_app ghL_digest_wsL_digest_r2 (goodIn_app ghL_digest_wsL_digest_r3 (goodIn_app ghL_digest_wsL_digest_r4 (goodIn_app ghL_digest_wsL_digest_r5 ghL_digest_wsL_digest_r6))))) ghL_digest_wsX30) ghL_digest_wsX00) ghL_digest_wsX10) ghL_digest_wsX20)
