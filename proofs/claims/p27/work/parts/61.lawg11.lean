/-! LAW: the words of what it calls (11) -/
set_option maxRecDepth 20000 in
theorem gL_law_X3_addShot : GoodIn wsL_law (wsV RL 44 RX3 yX3_addShot wsX3_addShot) := goodIn_app (goodIn_of _ (by decide +kernel)) ggL_law_X3_addShot
set_option maxRecDepth 20000 in
theorem ggL_law_X3_setSpeed : GoodIn wsL_law wsX3_setSpeed := goodIn_r _ [254, 12, 116, 54, 55, 2, 56, 65, 66, 67, 68, 15, 14, 69, 70, 71, 72, 73, 74, 75, 11, 76, 64, 25, 27, 77, 78, 79, 80, 81, 28, 82, 83, 84, 30, 85, 36, 86, 87, 88, 89, 90, 91, 92, 93, 94, 461, 462, 463, 464, 465, 466, 467, 468, 469, 470, 471, 472, 478, 479, 480, 481, 482, 483, 484, 485, 486] (by decide +kernel) (by decide +kernel)
set_option maxRecDepth 20000 in
theorem gL_law_X3_setSpeed : GoodIn wsL_law (wsV RL 50 RX3 yX3_setSpeed wsX3_setSpeed) := goodIn_app (goodIn_of _ (by decide +kernel)) ggL_law_X3_setSpeed
set_option maxRecDepth 20000 in
theorem ggL_law_X3_load : GoodIn wsL_law wsX3_load := goodIn_r _ [359, 13, 12, 19, 117, 73, 74, 75, 11, 76, 64, 25, 27, 77, 78, 79, 80, 81, 28, 82, 83, 84, 30, 85, 36, 86, 87, 88, 89, 90, 91, 92, 93, 94, 360, 361, 362, 18, 363, 364, 365, 366, 367, 368, 369, 370, 371, 40, 372, 373, 374, 375, 376, 377, 378, 379, 380, 381, 382, 383, 384, 385, 386, 387, 388, 389, 390, 391, 392, 393, 394, 395, 396, 397, 398, 399, 400, 401, 402, 403, 404, 405, 406, 407, 408, 409, 410, 411, 412, 413, 414, 415, 416, 417, 418, 419, 420, 421, 422, 423, 424, 425, 426, 427, 428, 429, 430, 431, 432, 433, 61, 62, 63, 434, 435, 436, 437, 438, 439, 440, 441, 442, 443, 58, 2, 59, 54, 55, 56, 444, 445, 446, 447, 448, 96, 97, 98, 99, 100, 101, 102, 103, 104, 105, 449, 236, 237, 238, 450, 451, 452, 453, 454, 232, 233, 234, 455, 240, 241, 242, 65, 66, 67, 68, 15, 14, 69, 70, 71, 72, 461, 462, 463, 464, 465, 473, 474, 475, 476, 477, 466, 467, 468, 469, 470, 471, 472, 478, 479, 480, 481, 482, 483, 484, 485, 486] (by decide +kernel) (by decide +kernel)
set_option maxRecDepth 20000 in
theorem gL_law_X3_load : GoodIn wsL_law (wsV RL 98 RX3 yX3_load wsX3_load) := goodIn_app (goodIn_of _ (by decide +kernel)) ggL_law_X3_load
set_option maxRecDepth 20000 in
theorem ggL_law_X3_append : GoodIn wsL_law wsX3_append := goodIn_r _ [459, 19, 117, 460, 54, 55, 2, 56, 461, 462, 463, 464, 465, 473, 474, 475, 476, 477] (by decide +kernel) (by decide +kernel)
set_option maxRecDepth 20000 in
theorem gL_law_X3_append : GoodIn wsL_law (wsV RL 101 RX3 yX3_append wsX3_append) := goodIn_app (goodIn_of _ (by decide +kernel)) ggL_law_X3_append
