/-! LAW: the words of what it calls (6) -/
set_option maxRecDepth 20000 in
theorem gL_law_L_digest : GoodIn wsL_law (va_wsS RL 80 yL_digest wsL_digest) := goodIn_app (goodIn_of _ (by decide +kernel)) ggL_law_L_digest
set_option maxRecDepth 20000 in
theorem ggL_law_X3_count : GoodIn wsL_law wsX3_count := goodIn_r _ [114, 12, 53, 115, 116, 15, 19, 117, 118, 119, 120, 11, 121, 64, 25, 105, 122, 123, 124, 125, 126, 127, 128, 129, 130, 101, 131, 132, 133, 134, 135, 136, 137, 138, 139, 140, 30, 141, 91, 142, 143, 144, 145, 104, 81, 27, 146, 147, 148, 149, 88, 89, 90, 150, 151, 152, 153, 154, 155, 156, 157, 94, 87, 93, 158, 159, 160, 161, 28, 162, 163, 164, 165, 166, 100, 167, 168, 169, 170, 171, 172, 173, 174, 175, 176, 177, 178, 179, 461, 462, 463, 464, 465, 466, 467, 468, 469, 470, 471, 472, 473, 474, 475, 476, 477, 478, 479, 480, 481, 482, 483, 484, 485, 486] (by decide +kernel) (by decide +kernel)
set_option maxRecDepth 20000 in
theorem gL_law_X3_count : GoodIn wsL_law (wsV RL 12 RX3 yX3_count wsX3_count) := goodIn_app (goodIn_of _ (by decide +kernel)) ggL_law_X3_count
