set_option maxRecDepth 20000 in
theorem ggX3_init_X0_init : GoodIn wsX3_init wsX0_init := goodIn_r _ [17, 18, 2, 3, 19, 20, 21, 22, 23, 24, 25, 26, 27, 28, 29, 30, 31, 36, 37, 38, 39, 40, 41, 42, 53, 54, 55, 56, 57, 58, 59, 60, 61] (by decide +kernel) (by decide +kernel)
set_option maxRecDepth 20000 in
theorem gX3_init_X0_init : GoodIn wsX3_init (wsX0_init) := ggX3_init_X0_init
set_option maxRecDepth 20000 in
theorem ggX3_init_X1_init : GoodIn wsX3_init wsX1_init := goodIn_r _ [33, 34, 2, 3, 21, 35, 48, 49, 50, 51, 52] (by decide +kernel) (by decide +kernel)
set_option maxRecDepth 20000 in
theorem gX3_init_X1_init_n29 : GoodIn wsX3_init (wsX1_init) := ggX3_init_X1_init
set_option maxRecDepth 20000 in
theorem ggX3_addWord_X3_isBetween : GoodIn wsX3_addWord wsX3_isBetween := goodIn_r _ [6] (by decide +kernel) (by decide +kernel)
set_option maxRecDepth 20000 in
theorem gX3_addWord_X3_isBetween : GoodIn wsX3_addWord (va_wsS RX3 34 yX3_isBetween wsX3_isBetween) := goodIn_app (goodIn_of _ (by decide +kernel)) ggX3_addWord_X3_isBetween
set_option maxRecDepth 20000 in
theorem ggX3_addWord_X3_isAllowed : GoodIn wsX3_addWord wsX3_isAllowed := goodIn_r _ [9, 3, 4, 5, 6] (by decide +kernel) (by decide +kernel)
set_option maxRecDepth 20000 in
theorem gX3_addWord_X3_isAllowed : GoodIn wsX3_addWord (va_wsS RX3 38 yX3_isAllowed wsX3_isAllowed) := goodIn_app (goodIn_of _ (by decide +kernel)) ggX3_addWord_X3_isAllowed
set_option maxRecDepth 20000 in
theorem ggX3_addWord_X0_hasRoomForWord : GoodIn wsX3_addWord wsX0_hasRoomForWord := goodIn_r _ [14, 15, 69, 70, 71, 72, 73, 74, 75] (by decide +kernel) (by decide +kernel)
set_option maxRecDepth 20000 in
theorem gX3_addWord_X0_hasRoomForWord : GoodIn wsX3_addWord (wsV RX3 42 RX0 yX0_hasRoomForWord wsX0_hasRoomForWord) := goodIn_app (goodIn_of _ (by decide +kernel)) ggX3_addWord_X0_hasRoomForWord
set_option maxRecDepth 20000 in
theorem ggX3_addWord_X3_record : GoodIn wsX3_addWord wsX3_record := goodIn_r _ [19, 20, 21, 1, 22, 23, 24, 5, 25, 26, 27, 28, 13, 29, 15, 30, 31, 32, 33, 34, 35, 36, 37, 38, 39, 40, 41, 42, 43, 44, 45, 46, 47, 48, 49, 50, 51, 52, 64, 65, 66, 67, 68, 69, 70, 71, 72, 73, 74, 75, 76, 77, 78, 79, 80, 81, 82, 83, 84] (by decide +kernel) (by decide +kernel)
set_option maxRecDepth 20000 in
theorem gX3_addWord_X3_record : GoodIn wsX3_addWord (wsV RX3 46 RX3 yX3_record wsX3_record) := goodIn_app (goodIn_of _ (by decide +kernel)) ggX3_addWord_X3_record
set_option maxRecDepth 20000 in
theorem ggX3_addWord_X0_appendWord : GoodIn wsX3_addWord wsX0_appendWord := goodIn_r _ [56, 30, 15, 57, 58, 59, 60, 61, 62, 63, 69, 70, 71, 72, 73, 74, 75, 76, 77, 78, 79, 80, 81, 82, 83, 84] (by decide +kernel) (by decide +kernel)
set_option maxRecDepth 20000 in
theorem gX3_addWord_X0_appendWord : GoodIn wsX3_addWord (wsV RX3 49 RX0 yX0_appendWord wsX0_appendWord) := goodIn_app (goodIn_of _ (by decide +kernel)) ggX3_addWord_X0_appendWord
set_option maxRecDepth 20000 in
theorem ggX3_removeWord_X0_hasWord : GoodIn wsX3_removeWord wsX0_hasWord := goodIn_r _ [7, 8, 56, 57, 58, 59, 60, 61, 62] (by decide +kernel) (by decide +kernel)
set_option maxRecDepth 20000 in
theorem gX3_removeWord_X0_hasWord : GoodIn wsX3_removeWord (wsV RX3 56 RX0 yX0_hasWord wsX0_hasWord) := goodIn_app (goodIn_of _ (by decide +kernel)) ggX3_removeWord_X0_hasWord
set_option maxRecDepth 20000 in
theorem ggX3_removeWord_X3_record : GoodIn wsX3_removeWord wsX3_record := goodIn_r _ [13, 14, 15, 1, 16, 17, 18, 12, 19, 20, 21, 22, 6, 23, 8, 24, 25, 26, 27, 28, 29, 30, 31, 32, 33, 34, 35, 36, 37, 38, 39, 40, 41, 42, 43, 44, 45, 46, 51, 52, 53, 54, 55, 56, 57, 58, 59, 60, 61, 62, 63, 64, 65, 66, 67, 68, 69, 70, 71] (by decide +kernel) (by decide +kernel)
set_option maxRecDepth 20000 in
theorem gX3_removeWord_X3_record : GoodIn wsX3_removeWord (wsV RX3 46 RX3 yX3_record wsX3_record) := goodIn_app (goodIn_of _ (by decide +kernel)) ggX3_removeWord_X3_record
set_option maxRecDepth 20000 in
theorem ggX3_removeWord_X0_deleteWord : GoodIn wsX3_removeWord wsX0_deleteWord := goodIn_r _ [50, 24, 8, 56, 57, 58, 59, 60, 61, 62] (by decide +kernel) (by decide +kernel)
set_option maxRecDepth 20000 in
theorem gX3_removeWord_X0_deleteWord : GoodIn wsX3_removeWord (wsV RX3 60 RX0 yX0_deleteWord wsX0_deleteWord) := goodIn_app (goodIn_of _ (by decide +kernel)) ggX3_removeWord_X0_deleteWord
set_option maxRecDepth 20000 in
theorem ggX3_setWord_X0_hasWord : GoodIn wsX3_setWord wsX0_hasWord := goodIn_r _ [8, 9, 67, 68, 69, 70, 71, 72, 73] (by decide +kernel) (by decide +kernel)
set_option maxRecDepth 20000 in
theorem gX3_setWord_X0_hasWord : GoodIn wsX3_setWord (wsV RX3 56 RX0 yX0_hasWord wsX0_hasWord) := goodIn_app (goodIn_of _ (by decide +kernel)) ggX3_setWord_X0_hasWord
set_option maxRecDepth 20000 in
theorem ggX3_setWord_X3_isAllowed : GoodIn wsX3_setWord wsX3_isAllowed := goodIn_r _ [13, 14, 15, 12, 16] (by decide +kernel) (by decide +kernel)
set_option maxRecDepth 20000 in
theorem gX3_setWord_X3_isAllowed : GoodIn wsX3_setWord (va_wsS RX3 38 yX3_isAllowed wsX3_isAllowed) := goodIn_app (goodIn_of _ (by decide +kernel)) ggX3_setWord_X3_isAllowed
set_option maxRecDepth 20000 in
theorem ggX3_setWord_X3_record : GoodIn wsX3_setWord wsX3_record := goodIn_r _ [20, 21, 22, 1, 23, 24, 25, 12, 26, 27, 28, 29, 7, 30, 9, 31, 32, 33, 34, 35, 36, 37, 38, 39, 40, 41, 42, 43, 44, 45, 46, 47, 48, 49, 50, 51, 52, 53, 62, 63, 64, 65, 66, 67, 68, 69, 70, 71, 72, 73, 74, 75, 76, 77, 78, 79, 80, 81, 82] (by decide +kernel) (by decide +kernel)
set_option maxRecDepth 20000 in
theorem gX3_setWord_X3_record : GoodIn wsX3_setWord (wsV RX3 46 RX3 yX3_record wsX3_record) := goodIn_app (goodIn_of _ (by decide +kernel)) ggX3_setWord_X3_record
set_option maxRecDepth 20000 in
theorem ggX3_setWord_X2_property : GoodIn wsX3_setWord wsX2_property := goodIn_r _ [57, 47, 48, 49, 50, 74, 75, 76, 77, 78, 79, 80, 81, 82] (by decide +kernel) (by decide +kernel)
set_option maxRecDepth 20000 in
theorem gX3_setWord_X2_property : GoodIn wsX3_setWord (wsV RX3 68 RX2 yX2_property wsX2_property) := goodIn_app (goodIn_of _ (by decide +kernel)) ggX3_setWord_X2_property
set_option maxRecDepth 20000 in
theorem ggX3_setWord_X2_setProperty : GoodIn wsX3_setWord wsX2_setProperty := goodIn_r _ [61, 47, 48, 49, 50, 74, 75, 76, 77, 78, 79, 80, 81, 82] (by decide +kernel) (by decide +kernel)
set_option maxRecDepth 20000 in
theorem gX3_setWord_X2_setProperty : GoodIn wsX3_setWord (wsV RX3 74 RX2 yX2_setProperty wsX2_setProperty) := goodIn_app (goodIn_of _ (by decide +kernel)) ggX3_setWord_X2_setProperty
set_option maxRecDepth 20000 in
theorem ggX3_addShot_X3_isBetween : GoodIn wsX3_addShot wsX3_isBetween := goodIn_r _ [6] (by decide +kernel) (by decide +kernel)
set_option maxRecDepth 20000 in
theorem gX3_addShot_X3_isBetween : GoodIn wsX3_addShot (va_wsS RX3 34 yX3_isBetween wsX3_isBetween) := goodIn_app (goodIn_of _ (by decide +kernel)) ggX3_addShot_X3_isBetween
set_option maxRecDepth 20000 in
theorem ggX3_addShot_X0_hasShotIn : GoodIn wsX3_addShot wsX0_hasShotIn := goodIn_r _ [11, 12, 13, 63, 64, 65, 66, 67, 68, 69] (by decide +kernel) (by decide +kernel)
set_option maxRecDepth 20000 in
theorem gX3_addShot_X0_hasShotIn : GoodIn wsX3_addShot (wsV RX3 82 RX0 yX0_hasShotIn wsX0_hasShotIn) := goodIn_app (goodIn_of _ (by decide +kernel)) ggX3_addShot_X0_hasShotIn
set_option maxRecDepth 20000 in
theorem ggX3_addShot_X0_hasRoomForShot : GoodIn wsX3_addShot wsX0_hasRoomForShot := goodIn_r _ [17, 12, 63, 64, 65, 66, 67, 68, 69] (by decide +kernel) (by decide +kernel)
set_option maxRecDepth 20000 in
theorem gX3_addShot_X0_hasRoomForShot : GoodIn wsX3_addShot (wsV RX3 85 RX0 yX0_hasRoomForShot wsX0_hasRoomForShot) := goodIn_app (goodIn_of _ (by decide +kernel)) ggX3_addShot_X0_hasRoomForShot
set_option maxRecDepth 20000 in
theorem ggX3_addShot_X3_record : GoodIn wsX3_addShot wsX3_record := goodIn_r _ [21, 22, 23, 1, 24, 25, 26, 5, 27, 28, 29, 30, 10, 31, 32, 33, 13, 34, 35, 36, 37, 12, 38, 39, 40, 41, 42, 43, 44, 45, 46, 47, 48, 49, 50, 51, 52, 53, 58, 59, 60, 61, 62, 63, 64, 65, 66, 67, 68, 69, 70, 71, 72, 73, 74, 75, 76, 77, 78] (by decide +kernel) (by decide +kernel)
set_option maxRecDepth 20000 in
theorem gX3_addShot_X3_record : GoodIn wsX3_addShot (wsV RX3 46 RX3 yX3_record wsX3_record) := goodIn_app (goodIn_of _ (by decide +kernel)) ggX3_addShot_X3_record
set_option maxRecDepth 20000 in
theorem ggX3_addShot_X0_insertShot : GoodIn wsX3_addShot wsX0_insertShot := goodIn_r _ [57, 12, 13, 63, 64, 65, 66, 67, 68, 69] (by decide +kernel) (by decide +kernel)
set_option maxRecDepth 20000 in
theorem gX3_addShot_X0_insertShot : GoodIn wsX3_addShot (wsV RX3 88 RX0 yX0_insertShot wsX0_insertShot) := goodIn_app (goodIn_of _ (by decide +kernel)) ggX3_addShot_X0_insertShot
set_option maxRecDepth 20000 in
theorem ggX3_removeShot_X3_isBetween : GoodIn wsX3_removeShot wsX3_isBetween := goodIn_r _ [6] (by decide +kernel) (by decide +kernel)
set_option maxRecDepth 20000 in
theorem gX3_removeShot_X3_isBetween : GoodIn wsX3_removeShot (va_wsS RX3 34 yX3_isBetween wsX3_isBetween) := goodIn_app (goodIn_of _ (by decide +kernel)) ggX3_removeShot_X3_isBetween
set_option maxRecDepth 20000 in
theorem ggX3_removeShot_X0_hasShotIn : GoodIn wsX3_removeShot wsX0_hasShotIn := goodIn_r _ [11, 12, 13, 59, 60, 61, 62, 63, 64, 65] (by decide +kernel) (by decide +kernel)
set_option maxRecDepth 20000 in
theorem gX3_removeShot_X0_hasShotIn : GoodIn wsX3_removeShot (wsV RX3 82 RX0 yX0_hasShotIn wsX0_hasShotIn) := goodIn_app (goodIn_of _ (by decide +kernel)) ggX3_removeShot_X0_hasShotIn
set_option maxRecDepth 20000 in
theorem ggX3_removeShot_X3_record : GoodIn wsX3_removeShot wsX3_record := goodIn_r _ [17, 18, 19, 1, 20, 21, 22, 5, 23, 24, 25, 26, 10, 27, 28, 29, 13, 30, 31, 32, 33, 12, 34, 35, 36, 37, 38, 39, 40, 41, 42, 43, 44, 45, 46, 47, 48, 49, 54, 55, 56, 57, 58, 59, 60, 61, 62, 63, 64, 65, 66, 67, 68, 69, 70, 71, 72, 73, 74] (by decide +kernel) (by decide +kernel)
set_option maxRecDepth 20000 in
theorem gX3_removeShot_X3_record : GoodIn wsX3_removeShot (wsV RX3 46 RX3 yX3_record wsX3_record) := goodIn_app (goodIn_of _ (by decide +kernel)) ggX3_removeShot_X3_record
set_option maxRecDepth 20000 in
theorem ggX3_removeShot_X0_deleteShot : GoodIn wsX3_removeShot wsX0_deleteShot := goodIn_r _ [53, 12, 13, 59, 60, 61, 62, 63, 64, 65] (by decide +kernel) (by decide +kernel)
set_option maxRecDepth 20000 in
theorem gX3_removeShot_X0_deleteShot : GoodIn wsX3_removeShot (wsV RX3 94 RX0 yX0_deleteShot wsX0_deleteShot) := goodIn_app (goodIn_of _ (by decide +kernel)) ggX3_removeShot_X0_deleteShot
set_option maxRecDepth 20000 in
theorem ggX3_setSpeed_X3_isBetween : GoodIn wsX3_setSpeed wsX3_isBetween := goodIn_r _ [6] (by decide +kernel) (by decide +kernel)
set_option maxRecDepth 20000 in
theorem gX3_setSpeed_X3_isBetween : GoodIn wsX3_setSpeed (va_wsS RX3 34 yX3_isBetween wsX3_isBetween) := goodIn_app (goodIn_of _ (by decide +kernel)) ggX3_setSpeed_X3_isBetween
set_option maxRecDepth 20000 in
theorem ggX3_setSpeed_X3_record : GoodIn wsX3_setSpeed wsX3_record := goodIn_r _ [10, 11, 12, 1, 13, 14, 15, 5, 16, 17, 18, 19, 20, 21, 22, 23, 24, 25, 26, 27, 28, 29, 30, 31, 32, 33, 34, 35, 36, 37, 38, 39, 40, 41, 42, 43, 44, 45, 46, 47, 48, 49, 50, 51, 52, 53, 54, 55, 56, 57, 58, 59, 60, 61, 62, 63, 64, 65, 66] (by decide +kernel) (by decide +kernel)
set_option maxRecDepth 20000 in
theorem gX3_setSpeed_X3_record : GoodIn wsX3_setSpeed (wsV RX3 46 RX3 yX3_record wsX3_record) := goodIn_app (goodIn_of _ (by decide +kernel)) ggX3_setSpeed_X3_record
set_option maxRecDepth 20000 in
theorem ggX3_append_X3_isBetween : GoodIn wsX3_append wsX3_isBetween := goodIn_r _ [7] (by decide +kernel) (by decide +kernel)
set_option maxRecDepth 20000 in
theorem gX3_append_X3_isBetween : GoodIn wsX3_append (va_wsS RX3 34 yX3_isBetween wsX3_isBetween) := goodIn_app (goodIn_of _ (by decide +kernel)) ggX3_append_X3_isBetween
set_option maxRecDepth 20000 in
theorem ggX3_load_X0_copyFrom : GoodIn wsX3_load wsX0_copyFrom := goodIn_r _ [9, 10, 11, 12, 13, 14, 15, 16, 17, 18, 19, 20, 21, 22, 23, 24, 25, 26, 27, 28, 29, 30, 31, 32, 33, 180, 181, 182, 183, 184, 185, 186, 187, 188, 189, 190, 191, 192, 193, 194, 195] (by decide +kernel) (by decide +kernel)
set_option maxRecDepth 20000 in
theorem gX3_load_X0_copyFrom : GoodIn wsX3_load (wsV RX3 107 RX0 yX0_copyFrom wsX0_copyFrom) := goodIn_app (goodIn_of _ (by decide +kernel)) ggX3_load_X0_copyFrom
set_option maxRecDepth 20000 in
theorem ggX3_load_X1_readInto : GoodIn wsX3_load wsX1_readInto := goodIn_r _ [38, 39, 40, 41, 42, 43, 44, 37, 45, 46, 47, 48, 49, 50, 51, 52, 53, 54, 55, 56, 57, 58, 59, 60, 61, 62, 63, 64, 65, 66, 67, 68, 69, 70, 71, 72, 73, 74, 75, 76, 77, 78, 79, 80, 81, 82, 83, 84, 85, 86, 87, 88, 89, 90, 91, 92, 93, 94, 95, 96, 97, 98, 99, 100, 101, 102, 103, 104, 105, 106, 107, 108, 109, 110, 111, 8, 112, 10, 113, 114, 115, 116, 117, 118, 14, 15, 16, 119, 120, 121, 122, 123, 124, 125, 126, 127, 128, 129, 130, 131, 132, 133, 134, 135, 136, 11, 137, 138, 139, 140, 141, 142, 143, 144, 145, 146, 147, 17, 148, 149, 150, 151, 152, 153, 154, 155, 12, 156, 157, 158, 159, 175, 176, 177, 178, 179, 180, 181, 182, 183, 184, 185, 186, 187, 188, 189, 190, 191, 192, 193, 194, 195] (by decide +kernel) (by decide +kernel)
set_option maxRecDepth 20000 in
theorem gX3_load_X1_readInto : GoodIn wsX3_load (wsV RX3 111 RX1 yX1_readInto wsX1_readInto) := goodIn_app (goodIn_of _ (by decide +kernel)) ggX3_load_X1_readInto
set_option maxRecDepth 20000 in
theorem ggX3_load_X3_record : GoodIn wsX3_load wsX3_record := goodIn_r _ [163, 164, 165, 2, 166, 167, 168, 124, 169, 5, 6, 7, 8, 9, 10, 11, 12, 13, 14, 15, 16, 17, 18, 19, 20, 21, 22, 23, 24, 25, 26, 27, 28, 29, 30, 31, 32, 33, 170, 171, 172, 173, 174, 180, 181, 182, 183, 184, 185, 186, 187, 188, 189, 190, 191, 192, 193, 194, 195] (by decide +kernel) (by decide +kernel)
set_option maxRecDepth 20000 in
theorem gX3_load_X3_record : GoodIn wsX3_load (wsV RX3 46 RX3 yX3_record wsX3_record) := goodIn_app (goodIn_of _ (by decide +kernel)) ggX3_load_X3_record
set_option maxRecDepth 20000 in
theorem ggX3_put_X3_isPossiblePlace : GoodIn wsX3_put wsX3_isPossiblePlace := goodIn_r _ [8, 1, 2, 9, 10, 11, 12, 13, 14, 15, 16, 7, 17, 18, 19, 20, 21, 22, 23, 131, 132, 133, 134, 135, 136, 137, 138, 139, 140, 141, 142, 143, 144, 145, 146, 147, 148, 149, 150, 151] (by decide +kernel) (by decide +kernel)
set_option maxRecDepth 20000 in
theorem gX3_put_X3_isPossiblePlace : GoodIn wsX3_put (wsV RX3 115 RX3 yX3_isPossiblePlace wsX3_isPossiblePlace) := goodIn_app (goodIn_of _ (by decide +kernel)) ggX3_put_X3_isPossiblePlace
set_option maxRecDepth 20000 in
theorem ggX3_put_X0_isFree : GoodIn wsX3_put wsX0_isFree := goodIn_r _ [27, 28, 29, 30, 14, 31, 32, 33, 21, 34, 35, 36, 37, 38, 39, 23, 40, 41, 42, 43, 44, 45, 46, 47, 48, 49, 50, 51, 52, 53, 12, 54, 55, 56, 57, 58, 59, 60, 61, 62, 63, 64, 65, 66, 67, 68, 69, 70, 71, 72, 73, 74, 75, 76, 77, 78, 79, 80, 81, 82, 83, 84, 85, 86, 87, 88, 89, 90, 91, 92, 93, 94, 95, 96, 97, 98, 99, 100, 101, 102, 103, 104, 105, 106, 107, 108, 109, 110, 136, 137, 138, 139, 140, 141, 142, 143, 144, 145, 146, 147, 148, 149, 150, 151] (by decide +kernel) (by decide +kernel)
set_option maxRecDepth 20000 in
theorem gX3_put_X0_isFree : GoodIn wsX3_put (wsV RX3 121 RX0 yX0_isFree wsX0_isFree) := goodIn_app (goodIn_of _ (by decide +kernel)) ggX3_put_X0_isFree
set_option maxRecDepth 20000 in
theorem ggX3_put_X3_record : GoodIn wsX3_put wsX3_record := goodIn_r _ [114, 115, 116, 1, 117, 118, 119, 7, 120, 121, 122, 123, 12, 124, 14, 29, 74, 125, 37, 38, 39, 73, 91, 31, 32, 33, 21, 34, 35, 36, 23, 40, 41, 42, 43, 44, 45, 46, 131, 132, 133, 134, 135, 136, 137, 138, 139, 140, 141, 142, 143, 144, 145, 146, 147, 148, 149, 150, 151] (by decide +kernel) (by decide +kernel)
set_option maxRecDepth 20000 in
theorem gX3_put_X3_record : GoodIn wsX3_put (wsV RX3 46 RX3 yX3_record wsX3_record) := goodIn_app (goodIn_of _ (by decide +kernel)) ggX3_put_X3_record
set_option maxRecDepth 20000 in
theorem ggX3_put_X2_putAt : GoodIn wsX3_put wsX2_putAt := goodIn_r _ [50, 44, 45, 46, 143, 144, 145, 146, 147, 148, 149, 150, 151] (by decide +kernel) (by decide +kernel)
set_option maxRecDepth 20000 in
theorem gX3_put_X2_putAt : GoodIn wsX3_put (wsV RX3 125 RX2 yX2_putAt wsX2_putAt) := goodIn_app (goodIn_of _ (by decide +kernel)) ggX3_put_X2_putAt
set_option maxRecDepth 20000 in
theorem ggX3_put_X0_countPut : GoodIn wsX3_put wsX0_countPut := goodIn_r _ [130, 14, 29, 55, 136, 137, 138, 139, 140, 141, 142, 143, 144, 145, 146, 147, 148, 149, 150, 151] (by decide +kernel) (by decide +kernel)
set_option maxRecDepth 20000 in
theorem gX3_put_X0_countPut : GoodIn wsX3_put (wsV RX3 128 RX0 yX0_countPut wsX0_countPut) := goodIn_app (goodIn_of _ (by decide +kernel)) ggX3_put_X0_countPut
set_option maxRecDepth 20000 in
theorem ggX3_take_X0_hasWord : GoodIn wsX3_take wsX0_hasWord := goodIn_r _ [8, 9, 58, 59, 60, 61, 62, 63, 64] (by decide +kernel) (by decide +kernel)
set_option maxRecDepth 20000 in
theorem gX3_take_X0_hasWord : GoodIn wsX3_take (wsV RX3 56 RX0 yX0_hasWord wsX0_hasWord) := goodIn_app (goodIn_of _ (by decide +kernel)) ggX3_take_X0_hasWord
set_option maxRecDepth 20000 in
theorem ggX3_take_X3_record : GoodIn wsX3_take wsX3_record := goodIn_r _ [14, 15, 16, 1, 17, 18, 19, 13, 20, 21, 22, 23, 7, 24, 9, 25, 26, 27, 28, 29, 30, 31, 32, 33, 34, 35, 36, 37, 38, 39, 40, 41, 42, 43, 44, 45, 46, 47, 53, 54, 55, 56, 57, 58, 59, 60, 61, 62, 63, 64, 65, 66, 67, 68, 69, 70, 71, 72, 73] (by decide +kernel) (by decide +kernel)
set_option maxRecDepth 20000 in
theorem gX3_take_X3_record : GoodIn wsX3_take (wsV RX3 46 RX3 yX3_record wsX3_record) := goodIn_app (goodIn_of _ (by decide +kernel)) ggX3_take_X3_record
set_option maxRecDepth 20000 in
theorem ggX3_take_X0_countPut : GoodIn wsX3_take wsX0_countPut := goodIn_r _ [51, 9, 25, 52, 58, 59, 60, 61, 62, 63, 64, 65, 66, 67, 68, 69, 70, 71, 72, 73] (by decide +kernel) (by decide +kernel)
set_option maxRecDepth 20000 in
theorem gX3_take_X0_countPut : GoodIn wsX3_take (wsV RX3 128 RX0 yX0_countPut wsX0_countPut) := goodIn_app (goodIn_of _ (by decide +kernel)) ggX3_take_X0_countPut
set_option maxRecDepth 20000 in
theorem ggX3_putAll_X3_record : GoodIn wsX3_putAll wsX3_record := goodIn_r _ [8, 9, 10, 1, 11, 12, 13, 7, 14, 15, 16, 17, 18, 19, 20, 21, 22, 23, 24, 25, 26, 27, 28, 29, 30, 31, 32, 33, 34, 35, 36, 37, 38, 39, 40, 41, 42, 43, 135, 136, 137, 138, 139, 140, 141, 142, 143, 144, 145, 146, 147, 148, 149, 150, 151, 152, 153, 154, 155] (by decide +kernel) (by decide +kernel)
set_option maxRecDepth 20000 in
theorem gX3_putAll_X3_record : GoodIn wsX3_putAll (wsV RX3 46 RX3 yX3_record wsX3_record) := goodIn_app (goodIn_of _ (by decide +kernel)) ggX3_putAll_X3_record
set_option maxRecDepth 20000 in
theorem ggX3_putAll_X0_takeAllWords : GoodIn wsX3_putAll wsX0_takeAllWords := goodIn_r _ [47, 20, 21, 48, 140, 141, 142, 143, 144, 145, 146, 147, 148, 149, 150, 151, 152, 153, 154, 155] (by decide +kernel) (by decide +kernel)
set_option maxRecDepth 20000 in
theorem gX3_putAll_X0_takeAllWords : GoodIn wsX3_putAll (wsV RX3 132 RX0 yX0_takeAllWords wsX0_takeAllWords) := goodIn_app (goodIn_of _ (by decide +kernel)) ggX3_putAll_X0_takeAllWords
set_option maxRecDepth 20000 in
theorem ggX3_putAll_X0_sortForPutting : GoodIn wsX3_putAll wsX0_sortForPutting := goodIn_r _ [52, 20, 21, 53, 54, 55, 18, 56, 57, 58, 140, 141, 142, 143, 144, 145, 146, 147, 148, 149, 150, 151, 152, 153, 154, 155] (by decide +kernel) (by decide +kernel)
set_option maxRecDepth 20000 in
theorem gX3_putAll_X0_sortForPutting : GoodIn wsX3_putAll (wsV RX3 135 RX0 yX0_sortForPutting wsX0_sortForPutting) := goodIn_app (goodIn_of _ (by decide +kernel)) ggX3_putAll_X0_sortForPutting
set_option maxRecDepth 20000 in
theorem ggX3_putAll_X0_putAtFirstPlace : GoodIn wsX3_putAll wsX0_putAtFirstPlace := goodIn_r _ [62, 21, 57, 63, 64, 65, 32, 66, 36, 67, 68, 69, 18, 70, 71, 20, 29, 30, 31, 33, 34, 35, 24, 25, 26, 37, 38, 39, 40, 41, 42, 43, 72, 73, 74, 75, 76, 77, 78, 79, 48, 80, 81, 82, 83, 84, 85, 86, 87, 88, 89, 90, 91, 92, 93, 94, 95, 96, 27, 22, 97, 98, 99, 100, 101, 102, 103, 104, 105, 106, 107, 108, 109, 110, 111, 112, 28, 113, 114, 115, 116, 117, 58, 118, 119, 120, 121, 122, 123, 124, 125, 126, 127, 128, 129, 130, 140, 141, 142, 143, 144, 145, 146, 147, 148, 149, 150, 151, 152, 153, 154, 155] (by decide +kernel) (by decide +kernel)
set_option maxRecDepth 20000 in
theorem gX3_putAll_X0_putAtFirstPlace : GoodIn wsX3_putAll (wsV RX3 141 RX0 yX0_putAtFirstPlace wsX0_putAtFirstPlace) := goodIn_app (goodIn_of _ (by decide +kernel)) ggX3_putAll_X0_putAtFirstPlace
set_option maxRecDepth 20000 in
theorem ggX3_putAll_X0_countPut : GoodIn wsX3_putAll wsX0_countPut := goodIn_r _ [134, 20, 21, 48, 140, 141, 142, 143, 144, 145, 146, 147, 148, 149, 150, 151, 152, 153, 154, 155] (by decide +kernel) (by decide +kernel)
set_option maxRecDepth 20000 in
theorem gX3_putAll_X0_countPut : GoodIn wsX3_putAll (wsV RX3 128 RX0 yX0_countPut wsX0_countPut) := goodIn_app (goodIn_of _ (by decide +kernel)) ggX3_putAll_X0_countPut
set_option maxRecDepth 20000 in
theorem ggX3_undo_X0_copyFrom : GoodIn wsX3_undo wsX0_copyFrom := goodIn_r _ [8, 9, 10, 11, 12, 13, 14, 15, 16, 17, 18, 19, 20, 21, 22, 23, 24, 25, 26, 27, 28, 29, 30, 31, 32, 38, 39, 40, 41, 42, 43, 44, 45, 46, 47, 48, 49, 50, 51, 52, 53] (by decide +kernel) (by decide +kernel)
set_option maxRecDepth 20000 in
theorem gX3_undo_X0_copyFrom : GoodIn wsX3_undo (wsV RX3 107 RX0 yX0_copyFrom wsX0_copyFrom) := goodIn_app (goodIn_of _ (by decide +kernel)) ggX3_undo_X0_copyFrom
set_option maxRecDepth 20000 in
theorem ggX3_count_X0_countPut : GoodIn wsX3_count wsX0_countPut := goodIn_r _ [12, 13, 14, 15, 93, 94, 95, 96, 97, 98, 99, 105, 106, 107, 108, 109, 110, 111, 112, 113] (by decide +kernel) (by decide +kernel)
set_option maxRecDepth 20000 in
theorem gX3_count_X0_countPut : GoodIn wsX3_count (wsV RX3 128 RX0 yX0_countPut wsX0_countPut) := goodIn_app (goodIn_of _ (by decide +kernel)) ggX3_count_X0_countPut
set_option maxRecDepth 20000 in
theorem ggX3_count_X0_countMeetingPairs : GoodIn wsX3_count wsX0_countMeetingPairs := goodIn_r _ [19, 13, 14, 20, 21, 22, 11, 23, 15, 24, 25, 26, 27, 28, 29, 30, 31, 32, 33, 34, 35, 36, 37, 38, 39, 40, 41, 42, 43, 44, 45, 46, 47, 48, 49, 50, 51, 52, 53, 54, 55, 56, 57, 58, 59, 60, 61, 62, 63, 64, 65, 66, 67, 68, 69, 70, 71, 72, 73, 74, 75, 76, 77, 78, 79, 80, 81, 82, 83, 84, 85, 86, 87, 93, 94, 95, 96, 97, 98, 99, 105, 106, 107, 108, 109, 110, 111, 112, 113] (by decide +kernel) (by decide +kernel)
set_option maxRecDepth 20000 in
theorem gX3_count_X0_countMeetingPairs : GoodIn wsX3_count (wsV RX3 144 RX0 yX0_countMeetingPairs wsX0_countMeetingPairs) := goodIn_app (goodIn_of _ (by decide +kernel)) ggX3_count_X0_countMeetingPairs
set_option maxRecDepth 20000 in
theorem ggX3_word_X0_hasWord : GoodIn wsX3_word wsX0_hasWord := goodIn_r _ [11, 12, 64, 65, 66, 67, 68, 69, 70] (by decide +kernel) (by decide +kernel)
set_option maxRecDepth 20000 in
theorem gX3_word_X0_hasWord : GoodIn wsX3_word (wsV RX3 56 RX0 yX0_hasWord wsX0_hasWord) := goodIn_app (goodIn_of _ (by decide +kernel)) ggX3_word_X0_hasWord
set_option maxRecDepth 20000 in
theorem ggX3_word_X3_isBetween : GoodIn wsX3_word wsX3_isBetween := goodIn_r _ [16] (by decide +kernel) (by decide +kernel)
set_option maxRecDepth 20000 in
theorem gX3_word_X3_isBetween : GoodIn wsX3_word (va_wsS RX3 34 yX3_isBetween wsX3_isBetween) := goodIn_app (goodIn_of _ (by decide +kernel)) ggX3_word_X3_isBetween
set_option maxRecDepth 20000 in
theorem ggX3_word_X2_property : GoodIn wsX3_word wsX2_property := goodIn_r _ [21, 22, 23, 24, 25, 71, 72, 73, 74, 75, 76, 77, 78, 79] (by decide +kernel) (by decide +kernel)
set_option maxRecDepth 20000 in
theorem gX3_word_X2_property : GoodIn wsX3_word (wsV RX3 68 RX2 yX2_property wsX2_property) := goodIn_app (goodIn_of _ (by decide +kernel)) ggX3_word_X2_property
set_option maxRecDepth 20000 in
theorem ggX3_word_X0_goneFrom : GoodIn wsX3_word wsX0_goneFrom := goodIn_r _ [29, 30, 31, 32, 33, 34, 35, 36, 37, 38, 39, 40, 20, 41, 22, 23, 24, 42, 43, 44, 10, 45, 46, 47, 48, 49, 25, 50, 51, 52, 53, 54, 55, 56, 57, 58, 71, 72, 73, 74, 75, 76, 77, 78, 79, 64, 65, 66, 67, 68, 69, 70] (by decide +kernel) (by decide +kernel)
set_option maxRecDepth 20000 in
theorem gX3_word_X0_goneFrom : GoodIn wsX3_word (wsV RX3 154 RX0 yX0_goneFrom wsX0_goneFrom) := goodIn_app (goodIn_of _ (by decide +kernel)) ggX3_word_X0_goneFrom
set_option maxRecDepth 20000 in
theorem ggX3_letter_X0_hasWord : GoodIn wsX3_letter wsX0_hasWord := goodIn_r _ [9, 10, 16, 17, 18, 19, 20, 21, 22] (by decide +kernel) (by decide +kernel)
set_option maxRecDepth 20000 in
theorem gX3_letter_X0_hasWord : GoodIn wsX3_letter (wsV RX3 56 RX0 yX0_hasWord wsX0_hasWord) := goodIn_app (goodIn_of _ (by decide +kernel)) ggX3_letter_X0_hasWord
set_option maxRecDepth 20000 in
theorem ggX3_where_X0_hasWord : GoodIn wsX3_where wsX0_hasWord := goodIn_r _ [7, 8, 78, 79, 80, 81, 82, 83, 84] (by decide +kernel) (by decide +kernel)
set_option maxRecDepth 20000 in
theorem gX3_where_X0_hasWord : GoodIn wsX3_where (wsV RX3 56 RX0 yX0_hasWord wsX0_hasWord) := goodIn_app (goodIn_of _ (by decide +kernel)) ggX3_where_X0_hasWord
set_option maxRecDepth 20000 in
theorem ggX3_where_X3_isAskedFrame : GoodIn wsX3_where wsX3_isAskedFrame := goodIn_r _ [12, 13, 14, 11, 15] (by decide +kernel) (by decide +kernel)
set_option maxRecDepth 20000 in
theorem gX3_where_X3_isAskedFrame : GoodIn wsX3_where (va_wsS RX3 164 yX3_isAskedFrame wsX3_isAskedFrame) := goodIn_app (goodIn_of _ (by decide +kernel)) ggX3_where_X3_isAskedFrame
set_option maxRecDepth 20000 in
theorem ggX3_where_X3_isBetween : GoodIn wsX3_where wsX3_isBetween := goodIn_r _ [15] (by decide +kernel) (by decide +kernel)
set_option maxRecDepth 20000 in
theorem gX3_where_X3_isBetween : GoodIn wsX3_where (va_wsS RX3 34 yX3_isBetween wsX3_isBetween) := goodIn_app (goodIn_of _ (by decide +kernel)) ggX3_where_X3_isBetween
set_option maxRecDepth 20000 in
theorem ggX3_where_X0_isVisible : GoodIn wsX3_where wsX0_isVisible := goodIn_r _ [19, 20, 21, 22, 23, 24, 6, 25, 26, 27, 28, 29, 30, 31, 32, 33, 34, 35, 36, 37, 38, 39, 40, 41, 42, 43, 44, 45, 46, 47, 48, 49, 50, 51, 52, 53, 54, 55, 56, 57, 58, 85, 86, 87, 88, 89, 90, 91, 92, 93, 78, 79, 80, 81, 82, 83, 84] (by decide +kernel) (by decide +kernel)
set_option maxRecDepth 20000 in
theorem gX3_where_X0_isVisible : GoodIn wsX3_where (wsV RX3 167 RX0 yX0_isVisible wsX0_isVisible) := goodIn_app (goodIn_of _ (by decide +kernel)) ggX3_where_X0_isVisible
set_option maxRecDepth 20000 in
theorem ggX3_where_X0_rowOf : GoodIn wsX3_where wsX0_rowOf := goodIn_r _ [62, 26, 63, 64, 65, 66, 36, 67, 38, 39, 40, 53, 54, 55, 6, 56, 57, 58, 85, 86, 87, 88, 89, 90, 91, 92, 93, 78, 79, 80, 81, 82, 83, 84] (by decide +kernel) (by decide +kernel)
set_option maxRecDepth 20000 in
theorem gX3_where_X0_rowOf : GoodIn wsX3_where (wsV RX3 171 RX0 yX0_rowOf wsX0_rowOf) := goodIn_app (goodIn_of _ (by decide +kernel)) ggX3_where_X0_rowOf
set_option maxRecDepth 20000 in
theorem ggX3_where_X0_columnOf : GoodIn wsX3_where wsX0_columnOf := goodIn_r _ [71, 26, 72, 64, 65, 66, 36, 67, 38, 39, 40, 53, 54, 55, 6, 56, 57, 58, 85, 86, 87, 88, 89, 90, 91, 92, 93, 78, 79, 80, 81, 82, 83, 84] (by decide +kernel) (by decide +kernel)
set_option maxRecDepth 20000 in
theorem gX3_where_X0_columnOf : GoodIn wsX3_where (wsV RX3 175 RX0 yX0_columnOf wsX0_columnOf) := goodIn_app (goodIn_of _ (by decide +kernel)) ggX3_where_X0_columnOf
set_option maxRecDepth 20000 in
theorem ggX3_onScreen_X3_isAskedFrame : GoodIn wsX3_onScreen wsX3_isAskedFrame := goodIn_r _ [5, 6, 7, 4, 8] (by decide +kernel) (by decide +kernel)
set_option maxRecDepth 20000 in
theorem gX3_onScreen_X3_isAskedFrame : GoodIn wsX3_onScreen (va_wsS RX3 164 yX3_isAskedFrame wsX3_isAskedFrame) := goodIn_app (goodIn_of _ (by decide +kernel)) ggX3_onScreen_X3_isAskedFrame
set_option maxRecDepth 20000 in
theorem ggX3_onScreen_X0_visibleSet : GoodIn wsX3_onScreen wsX0_visibleSet := goodIn_r _ [13, 14, 15, 16, 17, 18, 12, 19, 20, 21, 22, 23, 24, 25, 26, 27, 28, 29, 30, 31, 32, 33, 34, 35, 36, 37, 38, 39, 40, 41, 42, 43, 44, 45, 46, 47, 48, 49, 50, 51, 52, 53, 54, 55, 56, 57, 58, 64, 65, 66, 67, 68, 69, 70, 71, 72, 73, 74, 75, 76, 77, 78, 79] (by decide +kernel) (by decide +kernel)
set_option maxRecDepth 20000 in
theorem gX3_onScreen_X0_visibleSet : GoodIn wsX3_onScreen (wsV RX3 182 RX0 yX0_visibleSet wsX0_visibleSet) := goodIn_app (goodIn_of _ (by decide +kernel)) ggX3_onScreen_X0_visibleSet
set_option maxRecDepth 20000 in
theorem ggX3_meeting_X0_hasWord : GoodIn wsX3_meeting wsX0_hasWord := goodIn_r _ [7, 8, 83, 84, 85, 86, 87, 88, 89] (by decide +kernel) (by decide +kernel)
set_option maxRecDepth 20000 in
theorem gX3_meeting_X0_hasWord : GoodIn wsX3_meeting (wsV RX3 56 RX0 yX0_hasWord wsX0_hasWord) := goodIn_app (goodIn_of _ (by decide +kernel)) ggX3_meeting_X0_hasWord
set_option maxRecDepth 20000 in
theorem ggX3_meeting_X0_firstMeeting : GoodIn wsX3_meeting wsX0_firstMeeting := goodIn_r _ [12, 13, 14, 15, 16, 17, 18, 19, 20, 21, 22, 23, 24, 25, 26, 27, 28, 29, 30, 31, 6, 32, 33, 34, 35, 36, 37, 38, 39, 40, 41, 42, 43, 44, 45, 46, 47, 48, 49, 50, 51, 52, 53, 54, 55, 56, 57, 58, 59, 60, 61, 62, 63, 64, 65, 66, 67, 68, 69, 70, 71, 72, 73, 74, 75, 76, 77, 90, 91, 92, 93, 94, 95, 96, 97, 98, 83, 84, 85, 86, 87, 88, 89] (by decide +kernel) (by decide +kernel)
set_option maxRecDepth 20000 in
theorem gX3_meeting_X0_firstMeeting : GoodIn wsX3_meeting (wsV RX3 185 RX0 yX0_firstMeeting wsX0_firstMeeting) := goodIn_app (goodIn_of _ (by decide +kernel)) ggX3_meeting_X0_firstMeeting
set_option maxRecDepth 20000 in
theorem ggX3_earliest_X3_isPossiblePlace : GoodIn wsX3_earliest wsX3_isPossiblePlace := goodIn_r _ [8, 1, 2, 9, 10, 11, 12, 13, 14, 15, 16, 7, 17, 18, 19, 20, 21, 22, 23, 111, 112, 113, 114, 115, 116, 117, 118, 119, 120, 121, 122, 123, 124, 125, 126, 127, 128, 129, 130, 131] (by decide +kernel) (by decide +kernel)
set_option maxRecDepth 20000 in
theorem gX3_earliest_X3_isPossiblePlace : GoodIn wsX3_earliest (wsV RX3 115 RX3 yX3_isPossiblePlace wsX3_isPossiblePlace) := goodIn_app (goodIn_of _ (by decide +kernel)) ggX3_earliest_X3_isPossiblePlace
set_option maxRecDepth 20000 in
theorem ggX3_earliest_X0_isFree : GoodIn wsX3_earliest wsX0_isFree := goodIn_r _ [27, 28, 29, 30, 14, 31, 32, 33, 21, 34, 35, 36, 37, 38, 39, 23, 40, 41, 42, 43, 44, 45, 46, 47, 48, 49, 50, 51, 52, 53, 12, 54, 55, 56, 57, 58, 59, 60, 61, 62, 63, 64, 65, 66, 67, 68, 69, 70, 71, 72, 73, 74, 75, 76, 77, 78, 79, 80, 81, 82, 83, 84, 85, 86, 87, 88, 89, 90, 91, 92, 93, 94, 95, 96, 97, 98, 99, 100, 101, 102, 103, 104, 105, 106, 107, 108, 109, 110, 116, 117, 118, 119, 120, 121, 122, 123, 124, 125, 126, 127, 128, 129, 130, 131] (by decide +kernel) (by decide +kernel)
set_option maxRecDepth 20000 in
theorem gX3_earliest_X0_isFree : GoodIn wsX3_earliest (wsV RX3 121 RX0 yX0_isFree wsX0_isFree) := goodIn_app (goodIn_of _ (by decide +kernel)) ggX3_earliest_X0_isFree
set_option maxRecDepth 20000 in
theorem ggX3_filled_X3_isAskedFrame : GoodIn wsX3_filled wsX3_isAskedFrame := goodIn_r _ [5, 6, 7, 4, 8] (by decide +kernel) (by decide +kernel)
set_option maxRecDepth 20000 in
theorem gX3_filled_X3_isAskedFrame : GoodIn wsX3_filled (va_wsS RX3 164 yX3_isAskedFrame wsX3_isAskedFrame) := goodIn_app (goodIn_of _ (by decide +kernel)) ggX3_filled_X3_isAskedFrame
set_option maxRecDepth 20000 in
theorem ggX3_filled_X0_cellsInRow : GoodIn wsX3_filled wsX0_cellsInRow := goodIn_r _ [13, 14, 15, 16, 17, 18, 19, 20, 21, 22, 23, 24, 25, 26, 12, 27, 28, 29, 30, 31, 32, 33, 34, 35, 36, 37, 38, 39, 40, 41, 42, 43, 44, 45, 46, 47, 48, 49, 50, 51, 52, 53, 54, 55, 56, 57, 58, 59, 60, 61, 62, 63, 64, 65, 66, 67, 68, 69, 70, 71, 72, 73, 74, 75, 76, 89, 90, 91, 92, 93, 94, 95, 96, 97, 98, 99, 100, 101, 102, 103, 104] (by decide +kernel) (by decide +kernel)
set_option maxRecDepth 20000 in
theorem gX3_filled_X0_cellsInRow : GoodIn wsX3_filled (wsV RX3 192 RX0 yX0_cellsInRow wsX0_cellsInRow) := goodIn_app (goodIn_of _ (by decide +kernel)) ggX3_filled_X0_cellsInRow
set_option maxRecDepth 20000 in
theorem ggX3_filled_J13_bitCount_95d88 : GoodIn wsX3_filled wsJ13_bitCount_95d88 := goodIn_r _ [80, 81, 82, 83] (by decide +kernel) (by decide +kernel)
set_option maxRecDepth 20000 in
theorem gX3_filled_J13_bitCount_95d88 : GoodIn wsX3_filled (va_wsS RX3 196 yJ13_bitCount_95d88 wsJ13_bitCount_95d88) := goodIn_app (goodIn_of _ (by decide +kernel)) ggX3_filled_J13_bitCount_95d88
set_option maxRecDepth 20000 in
theorem ggX3_record_X3_dropOldestState : GoodIn wsX3_record wsX3_dropOldestState := goodIn_r _ [8, 2, 1, 38, 39, 40, 41, 42] (by decide +kernel) (by decide +kernel)
set_option maxRecDepth 20000 in
theorem gX3_record_X3_dropOldestState : GoodIn wsX3_record (wsV RX3 202 RX3 yX3_dropOldestState wsX3_dropOldestState) := goodIn_app (goodIn_of _ (by decide +kernel)) ggX3_record_X3_dropOldestState
set_option maxRecDepth 20000 in
theorem ggX3_record_X0_copyFrom : GoodIn wsX3_record wsX0_copyFrom := goodIn_r _ [13, 14, 15, 16, 17, 18, 19, 20, 21, 22, 23, 24, 25, 26, 27, 28, 29, 30, 31, 32, 33, 34, 35, 36, 37, 43, 44, 45, 46, 47, 48, 49, 50, 51, 52, 53, 54, 55, 56, 57, 58] (by decide +kernel) (by decide +kernel)
set_option maxRecDepth 20000 in
theorem gX3_record_X0_copyFrom : GoodIn wsX3_record (wsV RX3 107 RX0 yX0_copyFrom wsX0_copyFrom) := goodIn_app (goodIn_of _ (by decide +kernel)) ggX3_record_X0_copyFrom
set_option maxRecDepth 20000 in
theorem ggX3_isPossiblePlace_X0_hasWord : GoodIn wsX3_isPossiblePlace wsX0_hasWord := goodIn_r _ [7, 8, 24, 25, 26, 27, 28, 29, 30] (by decide +kernel) (by decide +kernel)
set_option maxRecDepth 20000 in
theorem gX3_isPossiblePlace_X0_hasWord : GoodIn wsX3_isPossiblePlace (wsV RX3 56 RX0 yX0_hasWord wsX0_hasWord) := goodIn_app (goodIn_of _ (by decide +kernel)) ggX3_isPossiblePlace_X0_hasWord
set_option maxRecDepth 20000 in
theorem ggX3_isPossiblePlace_X3_isBetween : GoodIn wsX3_isPossiblePlace wsX3_isBetween := goodIn_r _ [12] (by decide +kernel) (by decide +kernel)
set_option maxRecDepth 20000 in
theorem gX3_isPossiblePlace_X3_isBetween : GoodIn wsX3_isPossiblePlace (va_wsS RX3 34 yX3_isBetween wsX3_isBetween) := goodIn_app (goodIn_of _ (by decide +kernel)) ggX3_isPossiblePlace_X3_isBetween
set_option maxRecDepth 20000 in
theorem ggX3_isPossiblePlace_X2_lastColumn : GoodIn wsX3_isPossiblePlace wsX2_lastColumn := goodIn_r _ [17, 18, 31, 32, 33, 34, 35, 36, 37, 38, 39] (by decide +kernel) (by decide +kernel)
set_option maxRecDepth 20000 in
theorem gX3_isPossiblePlace_X2_lastColumn : GoodIn wsX3_isPossiblePlace (wsV RX3 205 RX2 yX2_lastColumn wsX2_lastColumn) := goodIn_app (goodIn_of _ (by decide +kernel)) ggX3_isPossiblePlace_X2_lastColumn
set_option maxRecDepth 20000 in
theorem ggX3_isAskedFrame_X3_isBetween : GoodIn wsX3_isAskedFrame wsX3_isBetween := goodIn_r _ [4] (by decide +kernel) (by decide +kernel)
set_option maxRecDepth 20000 in
theorem gX3_isAskedFrame_X3_isBetween : GoodIn wsX3_isAskedFrame (va_wsS RX3 34 yX3_isBetween wsX3_isBetween) := goodIn_app (goodIn_of _ (by decide +kernel)) ggX3_isAskedFrame_X3_isBetween
set_option maxRecDepth 20000 in
theorem ggX3_isAllowed_X3_isBetween : GoodIn wsX3_isAllowed wsX3_isBetween := goodIn_r _ [4] (by decide +kernel) (by decide +kernel)
set_option maxRecDepth 20000 in
theorem gX3_isAllowed_X3_isBetween : GoodIn wsX3_isAllowed (va_wsS RX3 34 yX3_isBetween wsX3_isBetween) := goodIn_app (goodIn_of _ (by decide +kernel)) ggX3_isAllowed_X3_isBetween
