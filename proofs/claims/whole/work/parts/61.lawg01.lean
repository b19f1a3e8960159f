/-! LAW: the words of what it calls (1) -/
set_option maxRecDepth 20000 in
theorem ggL_law_X3_removeShot : GoodIn wsL_law wsX3_removeShot := goodIn_r _ [218, 15, 189, 60, 61, 2, 62, 190, 191, 192, 14, 193, 87, 30, 71, 72, 73, 74, 18, 17, 75, 76, 77, 78, 79, 80, 81, 82, 70, 28, 83, 84, 85, 86, 31, 88, 89, 90, 33, 91, 39, 92, 93, 94, 95, 96, 97, 98, 99, 100, 219, 220, 221, 222, 768, 769, 770, 771, 772, 786, 787, 788, 789, 790, 791, 792, 798, 799, 800, 801, 802, 803, 804, 805, 806] (by decide +kernel) (by decide +kernel)
set_option maxRecDepth 20000 in
theorem gL_law_X3_removeShot : GoodIn wsL_law (wsV RL 32 RX3 yX3_removeShot wsX3_removeShot) := goodIn_app (goodIn_of _ (by decide +kernel)) ggL_law_X3_removeShot
set_option maxRecDepth 20000 in
theorem ggL_law_X4_removeShot : GoodIn wsL_law wsX4_removeShot := goodIn_r _ [226, 54, 206, 48, 117, 118, 5, 119, 207, 208, 209, 210, 126, 127, 128, 129, 130, 50, 773, 774, 775, 776, 777, 778, 779, 780, 781, 782, 783, 784, 785] (by decide +kernel) (by decide +kernel)
set_option maxRecDepth 20000 in
theorem gL_law_X4_removeShot : GoodIn wsL_law (wsV RL 35 RX4 yX4_removeShot wsX4_removeShot) := goodIn_app (goodIn_of _ (by decide +kernel)) ggL_law_X4_removeShot
set_option maxRecDepth 20000 in
theorem ggL_law_X3_setSpeed : GoodIn wsL_law wsX3_setSpeed := goodIn_r _ [230, 15, 231, 60, 61, 2, 62, 71, 72, 73, 74, 18, 17, 75, 76, 77, 78, 79, 80, 81, 14, 82, 70, 28, 30, 83, 84, 85, 86, 87, 31, 88, 89, 90, 33, 91, 39, 92, 93, 94, 95, 96, 97, 98, 99, 100, 768, 769, 770, 771, 772, 786, 787, 788, 789, 790, 791, 792, 798, 799, 800, 801, 802, 803, 804, 805, 806] (by decide +kernel) (by decide +kernel)
set_option maxRecDepth 20000 in
theorem gL_law_X3_setSpeed : GoodIn wsL_law (wsV RL 36 RX3 yX3_setSpeed wsX3_setSpeed) := goodIn_app (goodIn_of _ (by decide +kernel)) ggL_law_X3_setSpeed
set_option maxRecDepth 20000 in
theorem ggL_law_X4_setSpeed : GoodIn wsL_law wsX4_setSpeed := goodIn_r _ [235, 54, 236, 237, 48, 117, 118, 5, 119, 126, 127, 128, 129, 130, 50, 773, 774, 775, 776, 777, 778, 779, 780, 781, 782, 783, 784, 785] (by decide +kernel) (by decide +kernel)
set_option maxRecDepth 20000 in
theorem gL_law_X4_setSpeed : GoodIn wsL_law (wsV RL 39 RX4 yX4_setSpeed wsX4_setSpeed) := goodIn_app (goodIn_of _ (by decide +kernel)) ggL_law_X4_setSpeed
set_option maxRecDepth 20000 in
theorem ggL_law_X3_append : GoodIn wsL_law wsX3_append := goodIn_r _ [241, 22, 242, 243, 60, 61, 2, 62, 768, 769, 770, 771, 772, 793, 794, 795, 796, 797] (by decide +kernel) (by decide +kernel)
set_option maxRecDepth 20000 in
theorem gL_law_X3_append : GoodIn wsL_law (wsV RL 40 RX3 yX3_append wsX3_append) := goodIn_app (goodIn_of _ (by decide +kernel)) ggL_law_X3_append
set_option maxRecDepth 20000 in
theorem ggL_law_X4_append : GoodIn wsL_law wsX4_append := goodIn_r _ [247, 54, 248, 249, 51, 117, 118, 5, 119, 773, 774, 775, 776, 777, 778, 779, 780, 781, 782, 783, 784, 785] (by decide +kernel) (by decide +kernel)
set_option maxRecDepth 20000 in
theorem gL_law_X4_append : GoodIn wsL_law (wsV RL 43 RX4 yX4_append wsX4_append) := goodIn_app (goodIn_of _ (by decide +kernel)) ggL_law_X4_append
set_option maxRecDepth 20000 in
theorem ggL_law_X3_clearText : GoodIn wsL_law wsX3_clearText := goodIn_r _ [253, 22, 242, 768, 769, 770, 771, 772, 793, 794, 795, 796, 797] (by decide +kernel) (by decide +kernel)
set_option maxRecDepth 20000 in
theorem gL_law_X3_clearText : GoodIn wsL_law (wsV RL 44 RX3 yX3_clearText wsX3_clearText) := goodIn_app (goodIn_of _ (by decide +kernel)) ggL_law_X3_clearText
set_option maxRecDepth 20000 in
theorem ggL_law_X4_clearText : GoodIn wsL_law wsX4_clearText := goodIn_r _ [257, 54, 249, 773, 774, 775, 776, 777, 778, 779, 780, 781, 782, 783, 784, 785] (by decide +kernel) (by decide +kernel)
set_option maxRecDepth 20000 in
theorem gL_law_X4_clearText : GoodIn wsL_law (wsV RL 48 RX4 yX4_clearText wsX4_clearText) := goodIn_app (goodIn_of _ (by decide +kernel)) ggL_law_X4_clearText
set_option maxRecDepth 20000 in
theorem ggL_law_X3_load : GoodIn wsL_law wsX3_load := goodIn_r _ [261, 16, 15, 22, 242, 79, 80, 81, 14, 82, 70, 28, 30, 83, 84, 85, 86, 87, 31, 88, 89, 90, 33, 91, 39, 92, 93, 94, 95, 96, 97, 98, 99, 100, 262, 263, 264, 21, 265, 266, 267, 268, 269, 270, 271, 272, 273, 43, 274, 275, 276, 277, 278, 279, 280, 281, 282, 283, 284, 285, 286, 287, 288, 289, 290, 291, 292, 293, 294, 295, 296, 297, 298, 299, 300, 301, 302, 303, 304, 305, 306, 307, 308, 309, 310, 311, 312, 313, 314, 315, 316, 317, 318, 319, 320, 321, 322, 323, 324, 325, 326, 327, 328, 329, 330, 331, 332, 333, 334, 335, 67, 68, 69, 336, 337, 338, 339, 340, 341, 342, 343, 344, 345, 64, 2, 65, 60, 61, 62, 346, 347, 348, 349, 350, 102, 103, 104, 105, 106, 107, 108, 109, 110, 111, 351, 195, 196, 197, 352, 353, 354, 355, 356, 191, 192, 193, 357, 199, 200, 201, 71, 72, 73, 74, 18, 17, 75, 76, 77, 78, 768, 769, 770, 771, 772, 793, 794, 795, 796, 797, 786, 787, 788, 789, 790, 791, 792, 798, 799, 800, 801, 802, 803, 804, 805, 806] (by decide +kernel) (by decide +kernel)
set_option maxRecDepth 20000 in
theorem gL_law_X3_load : GoodIn wsL_law (wsV RL 49 RX3 yX3_load wsX3_load) := goodIn_app (goodIn_of _ (by decide +kernel)) ggL_law_X3_load
set_option maxRecDepth 20000 in
theorem ggL_law_X4_load : GoodIn wsL_law wsX4_load := goodIn_r _ [361, 54, 362, 363, 364, 365, 249, 366, 367, 368, 5, 369, 49, 48, 370, 371, 372, 373, 374, 375, 376, 377, 378, 379, 380, 381, 51, 382, 383, 384, 385, 117, 118, 119, 386, 387, 388, 389, 390, 391, 392, 393, 394, 395, 396, 397, 398, 399, 400, 401, 402, 403, 404, 405, 406, 407, 408, 409, 410, 411, 131, 132, 133, 134, 135, 136, 137, 138, 412, 413, 414, 415, 206, 207, 208, 209, 210, 211, 212, 213, 214, 416, 417, 418, 419, 126, 127, 128, 129, 130, 50, 773, 774, 775, 776, 777, 778, 779, 780, 781, 782, 783, 784, 785] (by decide +kernel) (by decide +kernel)
set_option maxRecDepth 20000 in
theorem gL_law_X4_load : GoodIn wsL_law (wsV RL 52 RX4 yX4_load wsX4_load) := goodIn_app (goodIn_of _ (by decide +kernel)) ggL_law_X4_load
