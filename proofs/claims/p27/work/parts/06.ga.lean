set_option maxRecDepth 20000 in
theorem ggJ0_length_8abf5_J0_coder_7d493 : GoodIn wsJ0_length_8abf5 wsJ0_coder_7d493 := goodIn_r _ [6, 7, 8] (by decide +kernel) (by decide +kernel)
set_option maxRecDepth 20000 in
theorem gJ0_length_8abf5_J0_coder_7d493 : GoodIn wsJ0_length_8abf5 (wsV RJ0 335 RJ0 yJ0_coder_7d493 wsJ0_coder_7d493) := goodIn_app (goodIn_of _ (by decide +kernel)) ggJ0_length_8abf5_J0_coder_7d493
set_option maxRecDepth 20000 in
theorem ggJ0_charAt_5068e_J0_isLatin1_aae02 : GoodIn wsJ0_charAt_5068e wsJ0_isLatin1_aae02 := goodIn_r _ [6, 7, 8] (by decide +kernel) (by decide +kernel)
set_option maxRecDepth 20000 in
theorem gJ0_charAt_5068e_J0_isLatin1_aae02 : GoodIn wsJ0_charAt_5068e (wsV RJ0 492 RJ0 yJ0_isLatin1_aae02 wsJ0_isLatin1_aae02) := goodIn_app (goodIn_of _ (by decide +kernel)) ggJ0_charAt_5068e_J0_isLatin1_aae02
set_option maxRecDepth 20000 in
theorem ggJ0_charAt_5068e_J1_charAt_3b067 : GoodIn wsJ0_charAt_5068e wsJ1_charAt_3b067 := goodIn_r _ [12, 13, 14, 5, 15, 16, 17, 18, 19, 20] (by decide +kernel) (by decide +kernel)
set_option maxRecDepth 20000 in
theorem gJ0_charAt_5068e_J1_charAt_3b067 : GoodIn wsJ0_charAt_5068e (va_wsS RJ0 495 yJ1_charAt_3b067 wsJ1_charAt_3b067) := goodIn_app (goodIn_of _ (by decide +kernel)) ggJ0_charAt_5068e_J1_charAt_3b067
set_option maxRecDepth 20000 in
theorem ggJ0_charAt_5068e_J2_charAt_3b067 : GoodIn wsJ0_charAt_5068e wsJ2_charAt_3b067 := goodIn_r _ [24, 25, 26, 23, 27, 28, 29, 30, 31, 14, 5, 15, 16, 17, 18, 19, 20, 32, 33, 34, 35, 36, 37] (by decide +kernel) (by decide +kernel)
set_option maxRecDepth 20000 in
theorem gJ0_charAt_5068e_J2_charAt_3b067 : GoodIn wsJ0_charAt_5068e (va_wsS RJ0 498 yJ2_charAt_3b067 wsJ2_charAt_3b067) := goodIn_app (goodIn_of _ (by decide +kernel)) ggJ0_charAt_5068e_J2_charAt_3b067
set_option maxRecDepth 20000 in
theorem ggJ0_checkIndex_df160_J3_checkIndex_8e157 : GoodIn wsJ0_checkIndex_df160 wsJ3_checkIndex_8e157 := goodIn_r _ [5] (by decide +kernel) (by decide +kernel)
set_option maxRecDepth 20000 in
theorem gJ0_checkIndex_df160_J3_checkIndex_8e157 : GoodIn wsJ0_checkIndex_df160 (va_wsS RJ0 1059 yJ3_checkIndex_8e157 wsJ3_checkIndex_8e157) := goodIn_app (goodIn_of _ (by decide +kernel)) ggJ0_checkIndex_df160_J3_checkIndex_8e157
set_option maxRecDepth 20000 in
theorem ggJ1_charAt_3b067_J0_checkIndex_df160 : GoodIn wsJ1_charAt_3b067 wsJ0_checkIndex_df160 := goodIn_r _ [4, 5, 6, 7, 8, 9] (by decide +kernel) (by decide +kernel)
set_option maxRecDepth 20000 in
theorem gJ1_charAt_3b067_J0_checkIndex_df160 : GoodIn wsJ1_charAt_3b067 (va_wsS RJ1 9 yJ0_checkIndex_df160 wsJ0_checkIndex_df160) := goodIn_app (goodIn_of _ (by decide +kernel)) ggJ1_charAt_3b067_J0_checkIndex_df160
set_option maxRecDepth 20000 in
theorem ggJ2_getChar_3b067_J2_length_9d52b : GoodIn wsJ2_getChar_3b067 wsJ2_length_9d52b := goodIn_r _ [7] (by decide +kernel) (by decide +kernel)
set_option maxRecDepth 20000 in
theorem gJ2_getChar_3b067_J2_length_9d52b : GoodIn wsJ2_getChar_3b067 (va_wsS RJ2 48 yJ2_length_9d52b wsJ2_length_9d52b) := goodIn_app (goodIn_of _ (by decide +kernel)) ggJ2_getChar_3b067_J2_length_9d52b
set_option maxRecDepth 20000 in
theorem ggJ2_charAt_3b067_J2_checkIndex_2214a : GoodIn wsJ2_charAt_3b067 wsJ2_checkIndex_2214a := goodIn_r _ [4, 5, 6, 3, 7, 8, 9, 10, 11, 12, 13, 14, 15, 16] (by decide +kernel) (by decide +kernel)
set_option maxRecDepth 20000 in
theorem gJ2_charAt_3b067_J2_checkIndex_2214a : GoodIn wsJ2_charAt_3b067 (va_wsS RJ2 67 yJ2_checkIndex_2214a wsJ2_checkIndex_2214a) := goodIn_app (goodIn_of _ (by decide +kernel)) ggJ2_charAt_3b067_J2_checkIndex_2214a
set_option maxRecDepth 20000 in
theorem ggJ2_charAt_3b067_J2_getChar_3b067 : GoodIn wsJ2_charAt_3b067 wsJ2_getChar_3b067 := goodIn_r _ [19, 20, 21, 22, 5, 6, 3, 7] (by decide +kernel) (by decide +kernel)
set_option maxRecDepth 20000 in
theorem gJ2_charAt_3b067_J2_getChar_3b067 : GoodIn wsJ2_charAt_3b067 (va_wsS RJ2 71 yJ2_getChar_3b067 wsJ2_getChar_3b067) := goodIn_app (goodIn_of _ (by decide +kernel)) ggJ2_charAt_3b067_J2_getChar_3b067
set_option maxRecDepth 20000 in
theorem ggJ2_checkIndex_2214a_J2_length_9d52b : GoodIn wsJ2_checkIndex_2214a wsJ2_length_9d52b := goodIn_r _ [4] (by decide +kernel) (by decide +kernel)
set_option maxRecDepth 20000 in
theorem gJ2_checkIndex_2214a_J2_length_9d52b : GoodIn wsJ2_checkIndex_2214a (va_wsS RJ2 48 yJ2_length_9d52b wsJ2_length_9d52b) := goodIn_app (goodIn_of _ (by decide +kernel)) ggJ2_checkIndex_2214a_J2_length_9d52b
set_option maxRecDepth 20000 in
theorem ggJ2_checkIndex_2214a_J0_checkIndex_df160 : GoodIn wsJ2_checkIndex_2214a wsJ0_checkIndex_df160 := goodIn_r _ [8, 9, 10, 11, 12, 13] (by decide +kernel) (by decide +kernel)
set_option maxRecDepth 20000 in
theorem gJ2_checkIndex_2214a_J0_checkIndex_df160 : GoodIn wsJ2_checkIndex_2214a (va_wsS RJ2 414 yJ0_checkIndex_df160 wsJ0_checkIndex_df160) := goodIn_app (goodIn_of _ (by decide +kernel)) ggJ2_checkIndex_2214a_J0_checkIndex_df160
set_option maxRecDepth 20000 in
theorem ggX0_init_X2_init : GoodIn wsX0_init wsX2_init := goodIn_r _ [14, 15, 2, 3, 6, 16, 24, 25, 26, 27, 28, 29, 30, 31, 32] (by decide +kernel) (by decide +kernel)
set_option maxRecDepth 20000 in
theorem gX0_init_X2_init_n25 : GoodIn wsX0_init (wsX2_init) := ggX0_init_X2_init
set_option maxRecDepth 20000 in
theorem ggX0_copyFrom_X2_copyFrom : GoodIn wsX0_copyFrom wsX2_copyFrom := goodIn_r _ [14, 15, 16, 5, 6, 7, 17, 18, 19, 20, 21, 22, 23, 24, 32, 33, 34, 35, 36, 37, 38, 39, 40] (by decide +kernel) (by decide +kernel)
set_option maxRecDepth 20000 in
theorem gX0_copyFrom_X2_copyFrom : GoodIn wsX0_copyFrom (wsV RX0 36 RX2 yX2_copyFrom wsX2_copyFrom) := goodIn_app (goodIn_of _ (by decide +kernel)) ggX0_copyFrom_X2_copyFrom
set_option maxRecDepth 20000 in
theorem ggX0_countMeetingPairs_X0_firstMeeting : GoodIn wsX0_countMeetingPairs wsX0_firstMeeting := goodIn_r _ [7, 8, 9, 10, 11, 12, 13, 14, 15, 16, 17, 18, 19, 20, 21, 22, 23, 24, 25, 26, 6, 27, 28, 29, 30, 31, 32, 33, 34, 35, 36, 37, 38, 39, 40, 41, 42, 43, 44, 45, 46, 47, 48, 49, 50, 51, 52, 53, 54, 55, 56, 57, 58, 59, 60, 61, 62, 63, 64, 65, 66, 67, 68, 69, 70, 71, 72, 80, 81, 82, 83, 84, 85, 86, 87, 88, 73, 74, 75, 76, 77, 78, 79] (by decide +kernel) (by decide +kernel)
set_option maxRecDepth 20000 in
theorem gX0_countMeetingPairs_X0_firstMeeting : GoodIn wsX0_countMeetingPairs (wsV RX0 71 RX0 yX0_firstMeeting wsX0_firstMeeting) := goodIn_app (goodIn_of _ (by decide +kernel)) ggX0_countMeetingPairs_X0_firstMeeting
set_option maxRecDepth 20000 in
theorem ggX0_rowOf_X2_stepsIn : GoodIn wsX0_rowOf wsX2_stepsIn := goodIn_r _ [7, 8, 9, 10, 18, 19, 20, 21, 22, 23, 24, 25, 26] (by decide +kernel) (by decide +kernel)
set_option maxRecDepth 20000 in
theorem gX0_rowOf_X2_stepsIn : GoodIn wsX0_rowOf (wsV RX0 79 RX2 yX2_stepsIn wsX2_stepsIn) := goodIn_app (goodIn_of _ (by decide +kernel)) ggX0_rowOf_X2_stepsIn
set_option maxRecDepth 20000 in
theorem ggX0_rowOf_X0_cellsMoved : GoodIn wsX0_rowOf wsX0_cellsMoved := goodIn_r _ [15, 16, 17, 27, 28, 29, 30, 31, 32, 33] (by decide +kernel) (by decide +kernel)
set_option maxRecDepth 20000 in
theorem gX0_rowOf_X0_cellsMoved : GoodIn wsX0_rowOf (wsV RX0 83 RX0 yX0_cellsMoved wsX0_cellsMoved) := goodIn_app (goodIn_of _ (by decide +kernel)) ggX0_rowOf_X0_cellsMoved
set_option maxRecDepth 20000 in
theorem ggX0_columnOf_X2_stepsIn : GoodIn wsX0_columnOf wsX2_stepsIn := goodIn_r _ [7, 8, 9, 10, 18, 19, 20, 21, 22, 23, 24, 25, 26] (by decide +kernel) (by decide +kernel)
set_option maxRecDepth 20000 in
theorem gX0_columnOf_X2_stepsIn : GoodIn wsX0_columnOf (wsV RX0 79 RX2 yX2_stepsIn wsX2_stepsIn) := goodIn_app (goodIn_of _ (by decide +kernel)) ggX0_columnOf_X2_stepsIn
set_option maxRecDepth 20000 in
theorem ggX0_columnOf_X0_cellsMoved : GoodIn wsX0_columnOf wsX0_cellsMoved := goodIn_r _ [15, 16, 17, 27, 28, 29, 30, 31, 32, 33] (by decide +kernel) (by decide +kernel)
set_option maxRecDepth 20000 in
theorem gX0_columnOf_X0_cellsMoved : GoodIn wsX0_columnOf (wsV RX0 83 RX0 yX0_cellsMoved wsX0_cellsMoved) := goodIn_app (goodIn_of _ (by decide +kernel)) ggX0_columnOf_X0_cellsMoved
set_option maxRecDepth 20000 in
theorem ggX0_goneFrom_X2_leavesIn : GoodIn wsX0_goneFrom wsX2_leavesIn := goodIn_r _ [13, 14, 15, 16, 36, 37, 38, 39, 40, 41, 42, 43, 44] (by decide +kernel) (by decide +kernel)
set_option maxRecDepth 20000 in
theorem gX0_goneFrom_X2_leavesIn : GoodIn wsX0_goneFrom (wsV RX0 89 RX2 yX2_leavesIn wsX2_leavesIn) := goodIn_app (goodIn_of _ (by decide +kernel)) ggX0_goneFrom_X2_leavesIn
set_option maxRecDepth 20000 in
theorem ggX0_goneFrom_X0_stepsToLeave : GoodIn wsX0_goneFrom wsX0_stepsToLeave := goodIn_r _ [21, 22, 23, 24, 12, 25, 26, 27, 28, 29, 30, 31, 32, 20, 33, 34, 35, 36, 37, 38, 39, 40, 41, 42, 43, 44, 45, 46, 47, 48, 49, 50, 51] (by decide +kernel) (by decide +kernel)
set_option maxRecDepth 20000 in
theorem gX0_goneFrom_X0_stepsToLeave : GoodIn wsX0_goneFrom (wsV RX0 93 RX0 yX0_stepsToLeave wsX0_stepsToLeave) := goodIn_app (goodIn_of _ (by decide +kernel)) ggX0_goneFrom_X0_stepsToLeave
set_option maxRecDepth 20000 in
theorem ggX0_stepsToLeave_X2_cellsToLeave : GoodIn wsX0_stepsToLeave wsX2_cellsToLeave := goodIn_r _ [5, 6, 7, 8, 9, 17, 18, 19, 20, 21, 22, 23, 24, 25] (by decide +kernel) (by decide +kernel)
set_option maxRecDepth 20000 in
theorem gX0_stepsToLeave_X2_cellsToLeave : GoodIn wsX0_stepsToLeave (wsV RX0 103 RX2 yX2_cellsToLeave wsX2_cellsToLeave) := goodIn_app (goodIn_of _ (by decide +kernel)) ggX0_stepsToLeave_X2_cellsToLeave
set_option maxRecDepth 20000 in
theorem ggX0_stepsToLeave_X0_cellsMoved : GoodIn wsX0_stepsToLeave wsX0_cellsMoved := goodIn_r _ [14, 15, 16, 26, 27, 28, 29, 30, 31, 32] (by decide +kernel) (by decide +kernel)
set_option maxRecDepth 20000 in
theorem gX0_stepsToLeave_X0_cellsMoved : GoodIn wsX0_stepsToLeave (wsV RX0 83 RX0 yX0_cellsMoved wsX0_cellsMoved) := goodIn_app (goodIn_of _ (by decide +kernel)) ggX0_stepsToLeave_X0_cellsMoved
set_option maxRecDepth 20000 in
theorem ggX0_isVisible_X0_goneFrom : GoodIn wsX0_isVisible wsX0_goneFrom := goodIn_r _ [7, 8, 9, 10, 2, 11, 12, 13, 14, 15, 16, 17, 18, 19, 20, 21, 22, 23, 24, 25, 6, 26, 27, 28, 29, 30, 31, 32, 33, 34, 35, 36, 37, 38, 39, 40, 41, 42, 43, 44, 45, 46, 47, 48, 49, 50, 51, 52, 53, 54, 55, 56] (by decide +kernel) (by decide +kernel)
set_option maxRecDepth 20000 in
theorem gX0_isVisible_X0_goneFrom : GoodIn wsX0_isVisible (wsV RX0 106 RX0 yX0_goneFrom wsX0_goneFrom) := goodIn_app (goodIn_of _ (by decide +kernel)) ggX0_isVisible_X0_goneFrom
set_option maxRecDepth 20000 in
theorem ggX0_visibleSet_X0_isVisible : GoodIn wsX0_visibleSet wsX0_isVisible := goodIn_r _ [7, 8, 9, 10, 11, 12, 6, 13, 14, 15, 16, 17, 18, 19, 20, 21, 22, 23, 24, 25, 26, 27, 28, 29, 30, 31, 32, 33, 34, 35, 36, 37, 38, 39, 40, 41, 42, 43, 44, 45, 46, 54, 55, 56, 57, 58, 59, 60, 61, 62, 47, 48, 49, 50, 51, 52, 53] (by decide +kernel) (by decide +kernel)
set_option maxRecDepth 20000 in
theorem gX0_visibleSet_X0_isVisible : GoodIn wsX0_visibleSet (wsV RX0 109 RX0 yX0_isVisible wsX0_isVisible) := goodIn_app (goodIn_of _ (by decide +kernel)) ggX0_visibleSet_X0_isVisible
set_option maxRecDepth 20000 in
theorem ggX0_cellsInRow_X0_isVisible : GoodIn wsX0_cellsInRow wsX0_isVisible := goodIn_r _ [15, 16, 17, 18, 19, 20, 14, 21, 22, 23, 24, 4, 5, 6, 7, 25, 26, 27, 28, 29, 30, 31, 32, 33, 34, 35, 36, 37, 38, 39, 40, 41, 42, 43, 44, 45, 46, 47, 48, 49, 50, 72, 73, 74, 75, 76, 77, 78, 79, 80, 65, 66, 67, 68, 69, 70, 71] (by decide +kernel) (by decide +kernel)
set_option maxRecDepth 20000 in
theorem gX0_cellsInRow_X0_isVisible : GoodIn wsX0_cellsInRow (wsV RX0 109 RX0 yX0_isVisible wsX0_isVisible) := goodIn_app (goodIn_of _ (by decide +kernel)) ggX0_cellsInRow_X0_isVisible
set_option maxRecDepth 20000 in
theorem ggX0_cellsInRow_X0_rowOf : GoodIn wsX0_cellsInRow wsX0_rowOf := goodIn_r _ [54, 22, 55, 56, 57, 58, 28, 59, 30, 31, 32, 45, 46, 47, 14, 48, 49, 50, 72, 73, 74, 75, 76, 77, 78, 79, 80, 65, 66, 67, 68, 69, 70, 71] (by decide +kernel) (by decide +kernel)
set_option maxRecDepth 20000 in
theorem gX0_cellsInRow_X0_rowOf : GoodIn wsX0_cellsInRow (wsV RX0 113 RX0 yX0_rowOf wsX0_rowOf) := goodIn_app (goodIn_of _ (by decide +kernel)) ggX0_cellsInRow_X0_rowOf
set_option maxRecDepth 20000 in
theorem ggX0_cellsInRow_X0_columnOf : GoodIn wsX0_cellsInRow wsX0_columnOf := goodIn_r _ [63, 22, 64, 56, 57, 58, 28, 59, 30, 31, 32, 45, 46, 47, 14, 48, 49, 50, 72, 73, 74, 75, 76, 77, 78, 79, 80, 65, 66, 67, 68, 69, 70, 71] (by decide +kernel) (by decide +kernel)
set_option maxRecDepth 20000 in
theorem gX0_cellsInRow_X0_columnOf : GoodIn wsX0_cellsInRow (wsV RX0 117 RX0 yX0_columnOf wsX0_columnOf) := goodIn_app (goodIn_of _ (by decide +kernel)) ggX0_cellsInRow_X0_columnOf
set_option maxRecDepth 20000 in
theorem ggX0_firstMeeting_X2_keepsLane : GoodIn wsX0_firstMeeting wsX2_keepsLane := goodIn_r _ [15, 16, 67, 68, 69, 70, 71, 72, 73, 74, 75] (by decide +kernel) (by decide +kernel)
set_option maxRecDepth 20000 in
theorem gX0_firstMeeting_X2_keepsLane : GoodIn wsX0_firstMeeting (wsV RX0 124 RX2 yX2_keepsLane wsX2_keepsLane) := goodIn_app (goodIn_of _ (by decide +kernel)) ggX0_firstMeeting_X2_keepsLane
set_option maxRecDepth 20000 in
theorem ggX0_firstMeeting_X0_goneFrom : GoodIn wsX0_firstMeeting wsX0_goneFrom := goodIn_r _ [21, 22, 23, 24, 3, 8, 9, 6, 10, 25, 26, 27, 14, 28, 29, 30, 31, 32, 33, 34, 20, 35, 36, 37, 38, 39, 16, 40, 41, 42, 43, 44, 45, 46, 47, 48, 67, 68, 69, 70, 71, 72, 73, 74, 75, 76, 77, 78, 79, 80, 81, 82] (by decide +kernel) (by decide +kernel)
set_option maxRecDepth 20000 in
theorem gX0_firstMeeting_X0_goneFrom : GoodIn wsX0_firstMeeting (wsV RX0 106 RX0 yX0_goneFrom wsX0_goneFrom) := goodIn_app (goodIn_of _ (by decide +kernel)) ggX0_firstMeeting_X0_goneFrom
set_option maxRecDepth 20000 in
theorem ggX0_firstMeeting_X0_shareCell : GoodIn wsX0_firstMeeting wsX0_shareCell := goodIn_r _ [52, 4, 5, 6, 7, 53, 8, 9, 10, 54, 55, 56, 20, 57, 22, 2, 58, 59, 60, 14, 61, 29, 30, 31, 43, 44, 45, 46, 47, 48, 62, 63, 64, 65, 66, 67, 68, 69, 70, 71, 72, 73, 74, 75, 76, 77, 78, 79, 80, 81, 82] (by decide +kernel) (by decide +kernel)
set_option maxRecDepth 20000 in
theorem gX0_firstMeeting_X0_shareCell : GoodIn wsX0_firstMeeting (wsV RX0 128 RX0 yX0_shareCell wsX0_shareCell) := goodIn_app (goodIn_of _ (by decide +kernel)) ggX0_firstMeeting_X0_shareCell
set_option maxRecDepth 20000 in
theorem ggX0_firstMeeting_X2_leavesIn : GoodIn wsX0_firstMeeting wsX2_leavesIn := goodIn_r _ [28, 29, 30, 31, 67, 68, 69, 70, 71, 72, 73, 74, 75] (by decide +kernel) (by decide +kernel)
set_option maxRecDepth 20000 in
theorem gX0_firstMeeting_X2_leavesIn : GoodIn wsX0_firstMeeting (wsV RX0 89 RX2 yX2_leavesIn wsX2_leavesIn) := goodIn_app (goodIn_of _ (by decide +kernel)) ggX0_firstMeeting_X2_leavesIn
set_option maxRecDepth 20000 in
theorem ggX0_shareCell_X0_rowOf : GoodIn wsX0_shareCell wsX0_rowOf := goodIn_r _ [13, 14, 15, 16, 17, 18, 19, 20, 21, 22, 23, 24, 25, 26, 12, 27, 28, 29, 35, 36, 37, 38, 39, 40, 41, 42, 43, 44, 45, 46, 47, 48, 49, 50] (by decide +kernel) (by decide +kernel)
set_option maxRecDepth 20000 in
theorem gX0_shareCell_X0_rowOf : GoodIn wsX0_shareCell (wsV RX0 113 RX0 yX0_rowOf wsX0_rowOf) := goodIn_app (goodIn_of _ (by decide +kernel)) ggX0_shareCell_X0_rowOf
set_option maxRecDepth 20000 in
theorem ggX0_shareCell_X0_columnOf : GoodIn wsX0_shareCell wsX0_columnOf := goodIn_r _ [33, 14, 34, 16, 17, 18, 19, 20, 21, 22, 23, 24, 25, 26, 12, 27, 28, 29, 35, 36, 37, 38, 39, 40, 41, 42, 43, 44, 45, 46, 47, 48, 49, 50] (by decide +kernel) (by decide +kernel)
set_option maxRecDepth 20000 in
theorem gX0_shareCell_X0_columnOf : GoodIn wsX0_shareCell (wsV RX0 117 RX0 yX0_columnOf wsX0_columnOf) := goodIn_app (goodIn_of _ (by decide +kernel)) ggX0_shareCell_X0_columnOf
set_option maxRecDepth 20000 in
theorem ggX0_isFree_X2_copyFrom : GoodIn wsX0_isFree wsX2_copyFrom := goodIn_r _ [9, 10, 11, 12, 13, 14, 15, 16, 17, 18, 19, 20, 21, 22, 95, 96, 97, 98, 99, 100, 101, 102, 103] (by decide +kernel) (by decide +kernel)
set_option maxRecDepth 20000 in
theorem gX0_isFree_X2_copyFrom : GoodIn wsX0_isFree (wsV RX0 36 RX2 yX2_copyFrom wsX2_copyFrom) := goodIn_app (goodIn_of _ (by decide +kernel)) ggX0_isFree_X2_copyFrom
set_option maxRecDepth 20000 in
theorem ggX0_isFree_X2_putAt : GoodIn wsX0_isFree wsX2_putAt := goodIn_r _ [26, 20, 21, 22, 95, 96, 97, 98, 99, 100, 101, 102, 103] (by decide +kernel) (by decide +kernel)
set_option maxRecDepth 20000 in
theorem gX0_isFree_X2_putAt : GoodIn wsX0_isFree (wsV RX0 132 RX2 yX2_putAt wsX2_putAt) := goodIn_app (goodIn_of _ (by decide +kernel)) ggX0_isFree_X2_putAt
set_option maxRecDepth 20000 in
theorem ggX0_isFree_X0_firstMeeting : GoodIn wsX0_isFree wsX0_firstMeeting := goodIn_r _ [31, 32, 33, 3, 34, 35, 36, 37, 38, 39, 40, 41, 42, 43, 8, 44, 19, 45, 46, 47, 30, 48, 49, 50, 51, 52, 53, 54, 55, 16, 17, 18, 56, 57, 58, 59, 60, 61, 62, 63, 22, 15, 21, 64, 65, 66, 67, 68, 69, 70, 71, 72, 73, 74, 75, 76, 77, 78, 79, 80, 81, 82, 83, 84, 85, 86, 87, 95, 96, 97, 98, 99, 100, 101, 102, 103, 88, 89, 90, 91, 92, 93, 94] (by decide +kernel) (by decide +kernel)
set_option maxRecDepth 20000 in
theorem gX0_isFree_X0_firstMeeting : GoodIn wsX0_isFree (wsV RX0 71 RX0 yX0_firstMeeting wsX0_firstMeeting) := goodIn_app (goodIn_of _ (by decide +kernel)) ggX0_isFree_X0_firstMeeting
set_option maxRecDepth 20000 in
theorem ggX0_sortForPutting_X0_comesBefore : GoodIn wsX0_sortForPutting wsX0_comesBefore := goodIn_r _ [7, 8, 9, 17, 18, 19, 20, 21, 22, 23, 24, 25] (by decide +kernel) (by decide +kernel)
set_option maxRecDepth 20000 in
theorem gX0_sortForPutting_X0_comesBefore : GoodIn wsX0_sortForPutting (va_wsS RX0 136 yX0_comesBefore wsX0_comesBefore) := goodIn_app (goodIn_of _ (by decide +kernel)) ggX0_sortForPutting_X0_comesBefore
set_option maxRecDepth 20000 in
theorem ggX0_putAtFirstPlace_X2_lastColumn : GoodIn wsX0_putAtFirstPlace wsX2_lastColumn := goodIn_r _ [7, 8, 103, 104, 105, 106, 107, 108, 109, 110, 111] (by decide +kernel) (by decide +kernel)
set_option maxRecDepth 20000 in
theorem gX0_putAtFirstPlace_X2_lastColumn : GoodIn wsX0_putAtFirstPlace (wsV RX0 140 RX2 yX2_lastColumn wsX2_lastColumn) := goodIn_app (goodIn_of _ (by decide +kernel)) ggX0_putAtFirstPlace_X2_lastColumn
set_option maxRecDepth 20000 in
theorem ggX0_putAtFirstPlace_X0_isFree : GoodIn wsX0_putAtFirstPlace wsX0_isFree := goodIn_r _ [13, 14, 1, 2, 15, 16, 17, 18, 6, 19, 20, 21, 22, 23, 24, 8, 25, 26, 27, 28, 29, 30, 31, 32, 33, 34, 35, 36, 37, 38, 12, 39, 40, 41, 42, 43, 44, 45, 46, 47, 48, 49, 50, 51, 52, 53, 54, 55, 56, 57, 58, 59, 60, 61, 62, 63, 64, 65, 66, 67, 68, 69, 70, 71, 72, 73, 74, 75, 76, 77, 78, 79, 80, 81, 82, 83, 84, 85, 86, 87, 88, 89, 90, 91, 92, 93, 94, 95, 96, 97, 98, 99, 100, 101, 102, 103, 104, 105, 106, 107, 108, 109, 110, 111] (by decide +kernel) (by decide +kernel)
set_option maxRecDepth 20000 in
theorem gX0_putAtFirstPlace_X0_isFree : GoodIn wsX0_putAtFirstPlace (wsV RX0 146 RX0 yX0_isFree wsX0_isFree) := goodIn_app (goodIn_of _ (by decide +kernel)) ggX0_putAtFirstPlace_X0_isFree
set_option maxRecDepth 20000 in
theorem ggX0_putAtFirstPlace_X2_putAt : GoodIn wsX0_putAtFirstPlace wsX2_putAt := goodIn_r _ [35, 29, 30, 31, 103, 104, 105, 106, 107, 108, 109, 110, 111] (by decide +kernel) (by decide +kernel)
set_option maxRecDepth 20000 in
theorem gX0_putAtFirstPlace_X2_putAt : GoodIn wsX0_putAtFirstPlace (wsV RX0 132 RX2 yX2_putAt wsX2_putAt) := goodIn_app (goodIn_of _ (by decide +kernel)) ggX0_putAtFirstPlace_X2_putAt
set_option maxRecDepth 20000 in
theorem ggX1_readInto_X1_step : GoodIn wsX1_readInto wsX1_step := goodIn_r _ [8, 1, 3, 9, 10, 2, 11, 12, 13, 7, 14, 131, 132, 133, 134, 135] (by decide +kernel) (by decide +kernel)
set_option maxRecDepth 20000 in
theorem gX1_readInto_X1_step : GoodIn wsX1_readInto (wsV RX1 19 RX1 yX1_step wsX1_step) := goodIn_app (goodIn_of _ (by decide +kernel)) ggX1_readInto_X1_step
set_option maxRecDepth 20000 in
theorem ggX1_readInto_X1_readItem : GoodIn wsX1_readInto wsX1_readItem := goodIn_r _ [18, 19, 20, 21, 7, 22, 2, 1, 3, 10, 23, 24, 25, 26, 27, 28, 29, 30, 31, 32, 33, 34, 35, 36, 37, 38, 39, 40, 41, 42, 43, 44, 45, 46, 47, 48, 49, 50, 51, 52, 53, 54, 55, 56, 57, 58, 59, 60, 61, 62, 63, 64, 65, 66, 67, 68, 69, 70, 71, 72, 73, 74, 75, 76, 77, 78, 79, 80, 81, 82, 83, 84, 85, 86, 4, 5, 6, 8, 9, 11, 12, 13, 14, 87, 88, 89, 90, 91, 92, 93, 94, 95, 96, 97, 98, 99, 100, 101, 102, 103, 104, 105, 106, 107, 108, 109, 110, 111, 112, 113, 114, 115, 116, 117, 118, 119, 120, 121, 122, 123, 124, 125, 126, 127, 128, 129, 130, 131, 132, 133, 134, 135, 136, 137, 138, 139, 140, 141, 142, 143, 144, 145, 146, 147, 148, 149, 150, 151] (by decide +kernel) (by decide +kernel)
set_option maxRecDepth 20000 in
theorem gX1_readInto_X1_readItem : GoodIn wsX1_readInto (wsV RX1 25 RX1 yX1_readItem wsX1_readItem) := goodIn_app (goodIn_of _ (by decide +kernel)) ggX1_readInto_X1_readItem
set_option maxRecDepth 20000 in
theorem ggX1_readItem_X1_isName : GoodIn wsX1_readItem wsX1_isName := goodIn_r _ [5, 6, 7, 8, 9, 10, 11, 12, 13, 14, 15, 16, 17, 18, 19, 20, 21, 22, 23, 24, 25, 26, 27, 28, 29, 30, 31, 32, 33, 34, 35, 36, 37, 38, 39, 40, 41, 42, 43, 44, 45, 46, 47, 48, 49, 50, 51, 52, 53, 54, 55, 56, 57, 58, 127, 128, 129, 130, 131] (by decide +kernel) (by decide +kernel)
set_option maxRecDepth 20000 in
theorem gX1_readItem_X1_isName : GoodIn wsX1_readItem (wsV RX1 34 RX1 yX1_isName wsX1_isName) := goodIn_app (goodIn_of _ (by decide +kernel)) ggX1_readItem_X1_isName
set_option maxRecDepth 20000 in
theorem ggX1_readItem_X0_hasRoomForWord : GoodIn wsX1_readItem wsX0_hasRoomForWord := goodIn_r _ [63, 64, 132, 133, 134, 135, 136, 137, 138] (by decide +kernel) (by decide +kernel)
set_option maxRecDepth 20000 in
theorem gX1_readItem_X0_hasRoomForWord : GoodIn wsX1_readItem (wsV RX1 38 RX0 yX0_hasRoomForWord wsX0_hasRoomForWord) := goodIn_app (goodIn_of _ (by decide +kernel)) ggX1_readItem_X0_hasRoomForWord
set_option maxRecDepth 20000 in
theorem ggX1_readItem_X1_readWord : GoodIn wsX1_readItem wsX1_readWord := goodIn_r _ [68, 8, 7, 6, 9, 69, 70, 71, 72, 73, 74, 75, 76, 4, 77, 78, 79, 80, 81, 82, 83, 84, 85, 86, 87, 88, 89, 90, 91, 92, 93, 94, 95, 96, 1, 2, 3, 5, 10, 11, 12, 13, 14, 15, 16, 17, 18, 19, 20, 21, 22, 23, 24, 25, 26, 27, 28, 29, 30, 31, 32, 33, 34, 35, 36, 37, 38, 39, 40, 41, 42, 43, 44, 45, 46, 47, 48, 49, 50, 51, 52, 53, 54, 55, 56, 57, 58, 97, 98, 99, 62, 100, 101, 64, 102, 103, 104, 105, 106, 107, 108, 127, 128, 129, 130, 131, 139, 140, 141, 142, 143, 144, 145, 146, 147, 132, 133, 134, 135, 136, 137, 138] (by decide +kernel) (by decide +kernel)
set_option maxRecDepth 20000 in
theorem gX1_readItem_X1_readWord : GoodIn wsX1_readItem (wsV RX1 44 RX1 yX1_readWord wsX1_readWord) := goodIn_app (goodIn_of _ (by decide +kernel)) ggX1_readItem_X1_readWord
set_option maxRecDepth 20000 in
theorem ggX1_readItem_X0_hasRoomForShot : GoodIn wsX1_readItem wsX0_hasRoomForShot := goodIn_r _ [112, 113, 132, 133, 134, 135, 136, 137, 138] (by decide +kernel) (by decide +kernel)
set_option maxRecDepth 20000 in
theorem gX1_readItem_X0_hasRoomForShot : GoodIn wsX1_readItem (wsV RX1 49 RX0 yX0_hasRoomForShot wsX0_hasRoomForShot) := goodIn_app (goodIn_of _ (by decide +kernel)) ggX1_readItem_X0_hasRoomForShot
set_option maxRecDepth 20000 in
theorem ggX1_readItem_X1_readShot : GoodIn wsX1_readItem wsX1_readShot := goodIn_r _ [117, 6, 74, 75, 76, 4, 77, 7, 8, 78, 9, 79, 80, 81, 82, 83, 84, 85, 86, 91, 88, 92, 118, 119, 120, 62, 121, 113, 122, 123, 124, 125, 126, 127, 128, 129, 130, 131, 132, 133, 134, 135, 136, 137, 138] (by decide +kernel) (by decide +kernel)
set_option maxRecDepth 20000 in
theorem gX1_readItem_X1_readShot : GoodIn wsX1_readItem (wsV RX1 52 RX1 yX1_readShot wsX1_readShot) := goodIn_app (goodIn_of _ (by decide +kernel)) ggX1_readItem_X1_readShot
set_option maxRecDepth 20000 in
theorem ggX1_readWord_X1_step : GoodIn wsX1_readWord wsX1_step := goodIn_r _ [14, 2, 1, 15, 4, 3, 16, 17, 18, 13, 19, 101, 102, 103, 104, 105] (by decide +kernel) (by decide +kernel)
set_option maxRecDepth 20000 in
theorem gX1_readWord_X1_step : GoodIn wsX1_readWord (wsV RX1 19 RX1 yX1_step wsX1_step) := goodIn_app (goodIn_of _ (by decide +kernel)) ggX1_readWord_X1_step
set_option maxRecDepth 20000 in
theorem ggX1_readWord_X1_numberOf : GoodIn wsX1_readWord wsX1_numberOf := goodIn_r _ [23, 3, 4, 1, 2, 101, 102, 103, 104, 105] (by decide +kernel) (by decide +kernel)
set_option maxRecDepth 20000 in
theorem gX1_readWord_X1_numberOf : GoodIn wsX1_readWord (wsV RX1 55 RX1 yX1_numberOf wsX1_numberOf) := goodIn_app (goodIn_of _ (by decide +kernel)) ggX1_readWord_X1_numberOf
set_option maxRecDepth 20000 in
theorem ggX1_readWord_X3_isAllowed : GoodIn wsX1_readWord wsX3_isAllowed := goodIn_r _ [26, 27, 28, 25, 29] (by decide +kernel) (by decide +kernel)
set_option maxRecDepth 20000 in
theorem gX1_readWord_X3_isAllowed_n59 : GoodIn wsX1_readWord (wsX3_isAllowed) := ggX1_readWord_X3_isAllowed
set_option maxRecDepth 20000 in
theorem ggX1_readWord_X1_wayOf : GoodIn wsX1_readWord wsX1_wayOf := goodIn_r _ [33, 34, 35, 36, 13, 37, 3, 2, 1, 4, 38, 39, 40, 41, 42, 43, 44, 45, 46, 47, 48, 49, 50, 51, 52, 53, 54, 55, 56, 57, 58, 59, 60, 61, 62, 63, 64, 65, 66, 67, 68, 69, 70, 71, 72, 73, 74, 75, 76, 77, 78, 79, 80, 81, 82, 83, 84, 85, 86, 101, 102, 103, 104, 105] (by decide +kernel) (by decide +kernel)
set_option maxRecDepth 20000 in
theorem gX1_readWord_X1_wayOf : GoodIn wsX1_readWord (wsV RX1 63 RX1 yX1_wayOf wsX1_wayOf) := goodIn_app (goodIn_of _ (by decide +kernel)) ggX1_readWord_X1_wayOf
set_option maxRecDepth 20000 in
theorem ggX1_readWord_X0_appendWord : GoodIn wsX1_readWord wsX0_appendWord := goodIn_r _ [91, 92, 93, 94, 95, 96, 97, 98, 99, 100, 115, 116, 117, 118, 119, 120, 121, 106, 107, 108, 109, 110, 111, 112, 113, 114] (by decide +kernel) (by decide +kernel)
set_option maxRecDepth 20000 in
theorem gX1_readWord_X0_appendWord : GoodIn wsX1_readWord (wsV RX1 66 RX0 yX0_appendWord wsX0_appendWord) := goodIn_app (goodIn_of _ (by decide +kernel)) ggX1_readWord_X0_appendWord
set_option maxRecDepth 20000 in
theorem ggX1_readShot_X1_step : GoodIn wsX1_readShot wsX1_step := goodIn_r _ [6, 7, 8, 9, 10, 1, 11, 12, 13, 5, 14, 33, 34, 35, 36, 37] (by decide +kernel) (by decide +kernel)
set_option maxRecDepth 20000 in
theorem gX1_readShot_X1_step : GoodIn wsX1_readShot (wsV RX1 19 RX1 yX1_step wsX1_step) := goodIn_app (goodIn_of _ (by decide +kernel)) ggX1_readShot_X1_step
set_option maxRecDepth 20000 in
theorem ggX1_readShot_X1_numberOf : GoodIn wsX1_readShot wsX1_numberOf := goodIn_r _ [18, 1, 10, 8, 7, 33, 34, 35, 36, 37] (by decide +kernel) (by decide +kernel)
set_option maxRecDepth 20000 in
theorem gX1_readShot_X1_numberOf : GoodIn wsX1_readShot (wsV RX1 55 RX1 yX1_numberOf wsX1_numberOf) := goodIn_app (goodIn_of _ (by decide +kernel)) ggX1_readShot_X1_numberOf
set_option maxRecDepth 20000 in
theorem ggX1_readShot_X3_isBetween : GoodIn wsX1_readShot wsX3_isBetween := goodIn_r _ [21] (by decide +kernel) (by decide +kernel)
set_option maxRecDepth 20000 in
theorem gX1_readShot_X3_isBetween_n81 : GoodIn wsX1_readShot (wsX3_isBetween) := ggX1_readShot_X3_isBetween
set_option maxRecDepth 20000 in
theorem ggX1_readShot_X0_hasShotIn : GoodIn wsX1_readShot wsX0_hasShotIn := goodIn_r _ [26, 27, 28, 38, 39, 40, 41, 42, 43, 44] (by decide +kernel) (by decide +kernel)
set_option maxRecDepth 20000 in
theorem gX1_readShot_X0_hasShotIn : GoodIn wsX1_readShot (wsV RX1 85 RX0 yX0_hasShotIn wsX0_hasShotIn) := goodIn_app (goodIn_of _ (by decide +kernel)) ggX1_readShot_X0_hasShotIn
set_option maxRecDepth 20000 in
theorem ggX1_readShot_X0_insertShot : GoodIn wsX1_readShot wsX0_insertShot := goodIn_r _ [32, 27, 28, 38, 39, 40, 41, 42, 43, 44] (by decide +kernel) (by decide +kernel)
set_option maxRecDepth 20000 in
theorem gX1_readShot_X0_insertShot : GoodIn wsX1_readShot (wsV RX1 89 RX0 yX0_insertShot wsX0_insertShot) := goodIn_app (goodIn_of _ (by decide +kernel)) ggX1_readShot_X0_insertShot
set_option maxRecDepth 20000 in
theorem ggX1_step_X1_kindAt : GoodIn wsX1_step wsX1_kindAt := goodIn_r _ [10, 3, 4, 11, 12, 13, 14, 15] (by decide +kernel) (by decide +kernel)
set_option maxRecDepth 20000 in
theorem gX1_step_X1_kindAt : GoodIn wsX1_step (wsV RX1 96 RX1 yX1_kindAt wsX1_kindAt) := goodIn_app (goodIn_of _ (by decide +kernel)) ggX1_step_X1_kindAt
set_option maxRecDepth 20000 in
theorem ggX1_isName_J0_length_8abf5 : GoodIn wsX1_isName wsJ0_length_8abf5 := goodIn_r _ [9, 10, 11, 12, 13, 8, 14, 15, 16] (by decide +kernel) (by decide +kernel)
set_option maxRecDepth 20000 in
theorem gX1_isName_J0_length_8abf5 : GoodIn wsX1_isName (wsV RX1 100 RJ0 yJ0_length_8abf5 wsJ0_length_8abf5) := goodIn_app (goodIn_of _ (by decide +kernel)) ggX1_isName_J0_length_8abf5
set_option maxRecDepth 20000 in
theorem ggX1_isName_J0_charAt_5068e : GoodIn wsX1_isName wsJ0_charAt_5068e := goodIn_r _ [20, 10, 21, 22, 23, 8, 24, 15, 16, 25, 26, 27, 28, 29, 30, 31, 32, 33, 34, 35, 36, 37, 38, 39, 40, 41, 42, 43, 44, 45, 46, 47, 48, 49, 50, 51, 52, 53] (by decide +kernel) (by decide +kernel)
set_option maxRecDepth 20000 in
theorem gX1_isName_J0_charAt_5068e : GoodIn wsX1_isName (wsV RX1 104 RJ0 yJ0_charAt_5068e wsJ0_charAt_5068e) := goodIn_app (goodIn_of _ (by decide +kernel)) ggX1_isName_J0_charAt_5068e
set_option maxRecDepth 20000 in
theorem ggX1_wayOf_X1_isName : GoodIn wsX1_wayOf wsX1_isName := goodIn_r _ [5, 6, 7, 8, 9, 10, 11, 12, 13, 14, 15, 16, 17, 18, 19, 20, 21, 22, 23, 24, 25, 26, 27, 28, 29, 30, 31, 32, 33, 34, 35, 36, 37, 38, 39, 40, 41, 42, 43, 44, 45, 46, 47, 48, 49, 50, 51, 52, 53, 54, 55, 56, 57, 58, 59, 60, 61, 62, 63] (by decide +kernel) (by decide +kernel)
set_option maxRecDepth 20000 in
theorem gX1_wayOf_X1_isName : GoodIn wsX1_wayOf (wsV RX1 34 RX1 yX1_isName wsX1_isName) := goodIn_app (goodIn_of _ (by decide +kernel)) ggX1_wayOf_X1_isName
