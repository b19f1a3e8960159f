set_option maxRecDepth 20000 in
theorem ggX4_isWord_X4_in : GoodIn wsX4_isWord wsX4_in := goodIn_r _ [5] (by decide +kernel) (by decide +kernel)
set_option maxRecDepth 20000 in
theorem gX4_isWord_X4_in : GoodIn wsX4_isWord (va_wsS RX4 33 yX4_in wsX4_in) := goodIn_app (goodIn_of _ (by decide +kernel)) ggX4_isWord_X4_in
set_option maxRecDepth 20000 in
theorem ggX4_isPut_X4_of : GoodIn wsX4_isPut wsX4_of := goodIn_r _ [5, 6, 7, 8, 9, 10, 11, 12, 13, 14, 15, 16, 17, 18, 19] (by decide +kernel) (by decide +kernel)
set_option maxRecDepth 20000 in
theorem gX4_isPut_X4_of : GoodIn wsX4_isPut (wsV RX4 37 RX4 yX4_of wsX4_of) := goodIn_app (goodIn_of _ (by decide +kernel)) ggX4_isPut_X4_of
set_option maxRecDepth 20000 in
theorem ggX4_putMany_X4_isPut : GoodIn wsX4_putMany wsX4_isPut := goodIn_r _ [6, 7, 8, 9, 5, 10, 1, 11, 12, 13, 14, 15, 16, 17, 18, 19, 20, 21, 22, 23] (by decide +kernel) (by decide +kernel)
set_option maxRecDepth 20000 in
theorem gX4_putMany_X4_isPut : GoodIn wsX4_putMany (wsV RX4 41 RX4 yX4_isPut wsX4_isPut) := goodIn_app (goodIn_of _ (by decide +kernel)) ggX4_putMany_X4_isPut
set_option maxRecDepth 20000 in
theorem ggX4_behind_X4_of : GoodIn wsX4_behind wsX4_of := goodIn_r _ [5, 6, 7, 8, 9, 10, 11, 12, 13, 14, 15, 16, 17, 18, 19] (by decide +kernel) (by decide +kernel)
set_option maxRecDepth 20000 in
theorem gX4_behind_X4_of : GoodIn wsX4_behind (wsV RX4 37 RX4 yX4_of wsX4_of) := goodIn_app (goodIn_of _ (by decide +kernel)) ggX4_behind_X4_of
set_option maxRecDepth 20000 in
theorem ggX4_cut_X4_of : GoodIn wsX4_cut wsX4_of := goodIn_r _ [6, 1, 7, 8, 9, 10, 11, 12, 13, 14, 15, 16, 17, 18, 19] (by decide +kernel) (by decide +kernel)
set_option maxRecDepth 20000 in
theorem gX4_cut_X4_of : GoodIn wsX4_cut (wsV RX4 37 RX4 yX4_of wsX4_of) := goodIn_app (goodIn_of _ (by decide +kernel)) ggX4_cut_X4_of
set_option maxRecDepth 20000 in
theorem ggX4_moved_X4_behind : GoodIn wsX4_moved wsX4_behind := goodIn_r _ [7, 8, 9, 10, 6, 11, 1, 12, 13, 14, 15, 16, 17, 18, 19, 20, 21, 22, 23, 24] (by decide +kernel) (by decide +kernel)
set_option maxRecDepth 20000 in
theorem gX4_moved_X4_behind : GoodIn wsX4_moved (wsV RX4 45 RX4 yX4_behind wsX4_behind) := goodIn_app (goodIn_of _ (by decide +kernel)) ggX4_moved_X4_behind
set_option maxRecDepth 20000 in
theorem ggX4_rowAt_X4_of : GoodIn wsX4_rowAt wsX4_of := goodIn_r _ [5, 6, 16, 17, 18, 19, 20, 21, 22, 23, 24, 25, 26, 27, 28] (by decide +kernel) (by decide +kernel)
set_option maxRecDepth 20000 in
theorem gX4_rowAt_X4_of : GoodIn wsX4_rowAt (wsV RX4 37 RX4 yX4_of wsX4_of) := goodIn_app (goodIn_of _ (by decide +kernel)) ggX4_rowAt_X4_of
set_option maxRecDepth 20000 in
theorem ggX4_rowAt_X4_moved : GoodIn wsX4_rowAt wsX4_moved := goodIn_r _ [10, 6, 11, 12, 13, 14, 4, 15, 1, 2, 3, 5, 16, 17, 18, 19, 20, 21, 22, 23, 24, 25, 26, 27, 28] (by decide +kernel) (by decide +kernel)
set_option maxRecDepth 20000 in
theorem gX4_rowAt_X4_moved : GoodIn wsX4_rowAt (wsV RX4 50 RX4 yX4_moved wsX4_moved) := goodIn_app (goodIn_of _ (by decide +kernel)) ggX4_rowAt_X4_moved
set_option maxRecDepth 20000 in
theorem ggX4_columnAt_X4_of : GoodIn wsX4_columnAt wsX4_of := goodIn_r _ [5, 6, 16, 17, 18, 19, 20, 21, 22, 23, 24, 25, 26, 27, 28] (by decide +kernel) (by decide +kernel)
set_option maxRecDepth 20000 in
theorem gX4_columnAt_X4_of : GoodIn wsX4_columnAt (wsV RX4 37 RX4 yX4_of wsX4_of) := goodIn_app (goodIn_of _ (by decide +kernel)) ggX4_columnAt_X4_of
set_option maxRecDepth 20000 in
theorem ggX4_columnAt_X4_moved : GoodIn wsX4_columnAt wsX4_moved := goodIn_r _ [10, 6, 11, 12, 13, 14, 4, 15, 1, 2, 3, 5, 16, 17, 18, 19, 20, 21, 22, 23, 24, 25, 26, 27, 28] (by decide +kernel) (by decide +kernel)
set_option maxRecDepth 20000 in
theorem gX4_columnAt_X4_moved : GoodIn wsX4_columnAt (wsV RX4 50 RX4 yX4_moved wsX4_moved) := goodIn_app (goodIn_of _ (by decide +kernel)) ggX4_columnAt_X4_moved
set_option maxRecDepth 20000 in
theorem ggX4_isOn_X4_isPut : GoodIn wsX4_isOn wsX4_isPut := goodIn_r _ [6, 7, 8, 9, 5, 10, 11, 36, 37, 38, 39, 40, 41, 42, 43, 44, 45, 46, 47, 48] (by decide +kernel) (by decide +kernel)
set_option maxRecDepth 20000 in
theorem gX4_isOn_X4_isPut : GoodIn wsX4_isOn (wsV RX4 41 RX4 yX4_isPut wsX4_isPut) := goodIn_app (goodIn_of _ (by decide +kernel)) ggX4_isOn_X4_isPut
set_option maxRecDepth 20000 in
theorem ggX4_isOn_X4_of : GoodIn wsX4_isOn wsX4_of := goodIn_r _ [10, 11, 36, 37, 38, 39, 40, 41, 42, 43, 44, 45, 46, 47, 48] (by decide +kernel) (by decide +kernel)
set_option maxRecDepth 20000 in
theorem gX4_isOn_X4_of : GoodIn wsX4_isOn (wsV RX4 37 RX4 yX4_of wsX4_of) := goodIn_app (goodIn_of _ (by decide +kernel)) ggX4_isOn_X4_of
set_option maxRecDepth 20000 in
theorem ggX4_isOn_X4_cut : GoodIn wsX4_isOn wsX4_cut := goodIn_r _ [15, 11, 7, 8, 9, 5, 10, 36, 37, 38, 39, 40, 41, 42, 43, 44, 45, 46, 47, 48] (by decide +kernel) (by decide +kernel)
set_option maxRecDepth 20000 in
theorem gX4_isOn_X4_cut : GoodIn wsX4_isOn (wsV RX4 53 RX4 yX4_cut wsX4_cut) := goodIn_app (goodIn_of _ (by decide +kernel)) ggX4_isOn_X4_cut
set_option maxRecDepth 20000 in
theorem ggX4_isOn_X4_behind : GoodIn wsX4_isOn wsX4_behind := goodIn_r _ [19, 7, 8, 9, 5, 10, 11, 36, 37, 38, 39, 40, 41, 42, 43, 44, 45, 46, 47, 48] (by decide +kernel) (by decide +kernel)
set_option maxRecDepth 20000 in
theorem gX4_isOn_X4_behind : GoodIn wsX4_isOn (wsV RX4 45 RX4 yX4_behind wsX4_behind) := goodIn_app (goodIn_of _ (by decide +kernel)) ggX4_isOn_X4_behind
set_option maxRecDepth 20000 in
theorem ggX4_isOn_X4_columnAt : GoodIn wsX4_isOn wsX4_columnAt := goodIn_r _ [23, 7, 8, 9, 5, 10, 11, 24, 25, 26, 27, 28, 16, 17, 18, 19, 36, 37, 38, 39, 40, 41, 42, 43, 44, 45, 46, 47, 48] (by decide +kernel) (by decide +kernel)
set_option maxRecDepth 20000 in
theorem gX4_isOn_X4_columnAt : GoodIn wsX4_isOn (wsV RX4 56 RX4 yX4_columnAt wsX4_columnAt) := goodIn_app (goodIn_of _ (by decide +kernel)) ggX4_isOn_X4_columnAt
set_option maxRecDepth 20000 in
theorem ggX4_isOn_X4_rowAt : GoodIn wsX4_isOn wsX4_rowAt := goodIn_r _ [32, 7, 8, 9, 5, 10, 11, 24, 25, 26, 27, 28, 16, 17, 18, 19, 36, 37, 38, 39, 40, 41, 42, 43, 44, 45, 46, 47, 48] (by decide +kernel) (by decide +kernel)
set_option maxRecDepth 20000 in
theorem gX4_isOn_X4_rowAt : GoodIn wsX4_isOn (wsV RX4 59 RX4 yX4_rowAt wsX4_rowAt) := goodIn_app (goodIn_of _ (by decide +kernel)) ggX4_isOn_X4_rowAt
set_option maxRecDepth 20000 in
theorem ggX4_isOn_X4_in : GoodIn wsX4_isOn wsX4_in := goodIn_r _ [35] (by decide +kernel) (by decide +kernel)
set_option maxRecDepth 20000 in
theorem gX4_isOn_X4_in : GoodIn wsX4_isOn (va_wsS RX4 33 yX4_in wsX4_in) := goodIn_app (goodIn_of _ (by decide +kernel)) ggX4_isOn_X4_in
set_option maxRecDepth 20000 in
theorem ggX4_meetsAt_X4_isOn : GoodIn wsX4_meetsAt wsX4_isOn := goodIn_r _ [5, 6, 7, 8, 9, 4, 10, 11, 12, 13, 14, 15, 16, 17, 18, 19, 20, 21, 22, 23, 24, 25, 26, 27, 28, 29, 30, 31, 32, 33, 34, 35, 36, 37, 38, 39, 46, 47, 48, 49, 50, 51, 52, 53, 54, 55, 56, 57, 58] (by decide +kernel) (by decide +kernel)
set_option maxRecDepth 20000 in
theorem gX4_meetsAt_X4_isOn : GoodIn wsX4_meetsAt (wsV RX4 64 RX4 yX4_isOn wsX4_isOn) := goodIn_app (goodIn_of _ (by decide +kernel)) ggX4_meetsAt_X4_isOn
set_option maxRecDepth 20000 in
theorem ggX4_meetsAt_X4_rowAt : GoodIn wsX4_meetsAt wsX4_rowAt := goodIn_r _ [36, 11, 12, 13, 4, 14, 15, 28, 29, 30, 31, 32, 20, 21, 22, 23, 46, 47, 48, 49, 50, 51, 52, 53, 54, 55, 56, 57, 58] (by decide +kernel) (by decide +kernel)
set_option maxRecDepth 20000 in
theorem gX4_meetsAt_X4_rowAt : GoodIn wsX4_meetsAt (wsV RX4 59 RX4 yX4_rowAt wsX4_rowAt) := goodIn_app (goodIn_of _ (by decide +kernel)) ggX4_meetsAt_X4_rowAt
set_option maxRecDepth 20000 in
theorem ggX4_meetsAt_X4_columnAt : GoodIn wsX4_meetsAt wsX4_columnAt := goodIn_r _ [27, 11, 12, 13, 4, 14, 15, 28, 29, 30, 31, 32, 20, 21, 22, 23, 46, 47, 48, 49, 50, 51, 52, 53, 54, 55, 56, 57, 58] (by decide +kernel) (by decide +kernel)
set_option maxRecDepth 20000 in
theorem gX4_meetsAt_X4_columnAt : GoodIn wsX4_meetsAt (wsV RX4 56 RX4 yX4_columnAt wsX4_columnAt) := goodIn_app (goodIn_of _ (by decide +kernel)) ggX4_meetsAt_X4_columnAt
set_option maxRecDepth 20000 in
theorem ggX4_meetsAt_X4_more : GoodIn wsX4_meetsAt wsX4_more := goodIn_r _ [42] (by decide +kernel) (by decide +kernel)
set_option maxRecDepth 20000 in
theorem gX4_meetsAt_X4_more : GoodIn wsX4_meetsAt (va_wsS RX4 68 yX4_more wsX4_more) := goodIn_app (goodIn_of _ (by decide +kernel)) ggX4_meetsAt_X4_more
set_option maxRecDepth 20000 in
theorem ggX4_meetsAt_X4_of : GoodIn wsX4_meetsAt wsX4_of := goodIn_r _ [14, 15, 46, 47, 48, 49, 50, 51, 52, 53, 54, 55, 56, 57, 58] (by decide +kernel) (by decide +kernel)
set_option maxRecDepth 20000 in
theorem gX4_meetsAt_X4_of : GoodIn wsX4_meetsAt (wsV RX4 37 RX4 yX4_of wsX4_of) := goodIn_app (goodIn_of _ (by decide +kernel)) ggX4_meetsAt_X4_of
set_option maxRecDepth 20000 in
theorem ggX4_meetsAt_X4_less : GoodIn wsX4_meetsAt wsX4_less := goodIn_r _ [45] (by decide +kernel) (by decide +kernel)
set_option maxRecDepth 20000 in
theorem gX4_meetsAt_X4_less : GoodIn wsX4_meetsAt (va_wsS RX4 71 yX4_less wsX4_less) := goodIn_app (goodIn_of _ (by decide +kernel)) ggX4_meetsAt_X4_less
set_option maxRecDepth 20000 in
theorem ggX4_meetingOf_X4_of : GoodIn wsX4_meetingOf wsX4_of := goodIn_r _ [5, 6, 50, 51, 52, 53, 54, 55, 56, 57, 58, 59, 60, 61, 62] (by decide +kernel) (by decide +kernel)
set_option maxRecDepth 20000 in
theorem gX4_meetingOf_X4_of : GoodIn wsX4_meetingOf (wsV RX4 37 RX4 yX4_of wsX4_of) := goodIn_app (goodIn_of _ (by decide +kernel)) ggX4_meetingOf_X4_of
set_option maxRecDepth 20000 in
theorem ggX4_meetingOf_X4_more : GoodIn wsX4_meetingOf wsX4_more := goodIn_r _ [9] (by decide +kernel) (by decide +kernel)
set_option maxRecDepth 20000 in
theorem gX4_meetingOf_X4_more : GoodIn wsX4_meetingOf (va_wsS RX4 68 yX4_more wsX4_more) := goodIn_app (goodIn_of _ (by decide +kernel)) ggX4_meetingOf_X4_more
set_option maxRecDepth 20000 in
theorem ggX4_meetingOf_X4_isOn : GoodIn wsX4_meetingOf wsX4_isOn := goodIn_r _ [13, 14, 15, 16, 17, 4, 18, 1, 2, 3, 5, 6, 19, 20, 21, 22, 23, 24, 25, 26, 27, 28, 29, 30, 31, 32, 33, 34, 35, 36, 37, 38, 39, 40, 41, 42, 50, 51, 52, 53, 54, 55, 56, 57, 58, 59, 60, 61, 62] (by decide +kernel) (by decide +kernel)
set_option maxRecDepth 20000 in
theorem gX4_meetingOf_X4_isOn : GoodIn wsX4_meetingOf (wsV RX4 64 RX4 yX4_isOn wsX4_isOn) := goodIn_app (goodIn_of _ (by decide +kernel)) ggX4_meetingOf_X4_isOn
set_option maxRecDepth 20000 in
theorem ggX4_meetingOf_X4_meetsAt : GoodIn wsX4_meetingOf wsX4_meetsAt := goodIn_r _ [46, 10, 11, 12, 4, 13, 14, 15, 16, 17, 18, 1, 2, 3, 5, 6, 19, 20, 21, 22, 23, 24, 25, 26, 27, 28, 29, 30, 31, 32, 33, 34, 35, 36, 37, 38, 39, 40, 41, 42, 7, 8, 9, 47, 48, 49, 50, 51, 52, 53, 54, 55, 56, 57, 58, 59, 60, 61, 62] (by decide +kernel) (by decide +kernel)
set_option maxRecDepth 20000 in
theorem gX4_meetingOf_X4_meetsAt : GoodIn wsX4_meetingOf (wsV RX4 74 RX4 yX4_meetsAt wsX4_meetsAt) := goodIn_app (goodIn_of _ (by decide +kernel)) ggX4_meetingOf_X4_meetsAt
set_option maxRecDepth 20000 in
theorem ggX4_meetsAny_X4_isPut : GoodIn wsX4_meetsAny wsX4_isPut := goodIn_r _ [6, 7, 8, 9, 5, 10, 1, 54, 55, 56, 57, 58, 59, 60, 61, 62, 63, 64, 65, 66] (by decide +kernel) (by decide +kernel)
set_option maxRecDepth 20000 in
theorem gX4_meetsAny_X4_isPut : GoodIn wsX4_meetsAny (wsV RX4 41 RX4 yX4_isPut wsX4_isPut) := goodIn_app (goodIn_of _ (by decide +kernel)) ggX4_meetsAny_X4_isPut
set_option maxRecDepth 20000 in
theorem ggX4_meetsAny_X4_meetingOf : GoodIn wsX4_meetsAny wsX4_meetingOf := goodIn_r _ [14, 7, 8, 9, 5, 10, 1, 15, 16, 17, 18, 19, 20, 21, 22, 2, 3, 4, 6, 23, 24, 25, 26, 27, 28, 29, 30, 31, 32, 33, 34, 35, 36, 37, 38, 39, 40, 41, 42, 43, 44, 45, 46, 47, 48, 49, 50, 51, 52, 53, 54, 55, 56, 57, 58, 59, 60, 61, 62, 63, 64, 65, 66] (by decide +kernel) (by decide +kernel)
set_option maxRecDepth 20000 in
theorem gX4_meetsAny_X4_meetingOf : GoodIn wsX4_meetsAny (wsV RX4 78 RX4 yX4_meetingOf wsX4_meetingOf) := goodIn_app (goodIn_of _ (by decide +kernel)) ggX4_meetsAny_X4_meetingOf
set_option maxRecDepth 20000 in
theorem ggX4_makeWord_X4_set : GoodIn wsX4_makeWord wsX4_set := goodIn_r _ [6, 1, 7, 8, 9, 10, 11, 12, 13, 14, 15, 16, 17, 18, 19] (by decide +kernel) (by decide +kernel)
set_option maxRecDepth 20000 in
theorem gX4_makeWord_X4_set : GoodIn wsX4_makeWord (wsV RX4 81 RX4 yX4_set wsX4_set) := goodIn_app (goodIn_of _ (by decide +kernel)) ggX4_makeWord_X4_set
set_option maxRecDepth 20000 in
theorem ggX4_isPart_X4_in : GoodIn wsX4_isPart wsX4_in := goodIn_r _ [7] (by decide +kernel) (by decide +kernel)
set_option maxRecDepth 20000 in
theorem gX4_isPart_X4_in : GoodIn wsX4_isPart (va_wsS RX4 33 yX4_in wsX4_in) := goodIn_app (goodIn_of _ (by decide +kernel)) ggX4_isPart_X4_in
set_option maxRecDepth 20000 in
theorem ggX4_addWord_X4_in : GoodIn wsX4_addWord wsX4_in := goodIn_r _ [7] (by decide +kernel) (by decide +kernel)
set_option maxRecDepth 20000 in
theorem gX4_addWord_X4_in : GoodIn wsX4_addWord (va_wsS RX4 33 yX4_in wsX4_in) := goodIn_app (goodIn_of _ (by decide +kernel)) ggX4_addWord_X4_in
set_option maxRecDepth 20000 in
theorem ggX4_addWord_X4_isPart : GoodIn wsX4_addWord wsX4_isPart := goodIn_r _ [10, 11, 12, 13, 4, 5, 6, 7] (by decide +kernel) (by decide +kernel)
set_option maxRecDepth 20000 in
theorem gX4_addWord_X4_isPart : GoodIn wsX4_addWord (va_wsS RX4 93 yX4_isPart wsX4_isPart) := goodIn_app (goodIn_of _ (by decide +kernel)) ggX4_addWord_X4_isPart
set_option maxRecDepth 20000 in
theorem ggX4_addWord_X4_act : GoodIn wsX4_addWord wsX4_act := goodIn_r _ [17, 18, 19, 3, 28, 29, 30, 31, 32, 33, 34, 35, 36, 37, 38, 39, 40] (by decide +kernel) (by decide +kernel)
set_option maxRecDepth 20000 in
theorem gX4_addWord_X4_act : GoodIn wsX4_addWord (wsV RX4 96 RX4 yX4_act wsX4_act) := goodIn_app (goodIn_of _ (by decide +kernel)) ggX4_addWord_X4_act
set_option maxRecDepth 20000 in
theorem ggX4_addWord_X4_makeWord : GoodIn wsX4_addWord wsX4_makeWord := goodIn_r _ [23, 3, 24, 25, 26, 6, 27, 28, 29, 30, 31, 32, 33, 34, 35, 36, 37, 38, 39, 40] (by decide +kernel) (by decide +kernel)
set_option maxRecDepth 20000 in
theorem gX4_addWord_X4_makeWord : GoodIn wsX4_addWord (wsV RX4 99 RX4 yX4_makeWord wsX4_makeWord) := goodIn_app (goodIn_of _ (by decide +kernel)) ggX4_addWord_X4_makeWord
set_option maxRecDepth 20000 in
theorem ggX4_addWord_X4_set : GoodIn wsX4_addWord wsX4_set := goodIn_r _ [27, 3, 28, 29, 30, 31, 32, 33, 34, 35, 36, 37, 38, 39, 40] (by decide +kernel) (by decide +kernel)
set_option maxRecDepth 20000 in
theorem gX4_addWord_X4_set : GoodIn wsX4_addWord (wsV RX4 81 RX4 yX4_set wsX4_set) := goodIn_app (goodIn_of _ (by decide +kernel)) ggX4_addWord_X4_set
set_option maxRecDepth 20000 in
theorem ggX4_removeWord_X4_isWord : GoodIn wsX4_removeWord wsX4_isWord := goodIn_r _ [7, 2, 8, 9, 6, 10, 17, 18, 19, 20, 21, 22, 23, 24, 25, 26, 27, 28, 29] (by decide +kernel) (by decide +kernel)
set_option maxRecDepth 20000 in
theorem gX4_removeWord_X4_isWord : GoodIn wsX4_removeWord (wsV RX4 103 RX4 yX4_isWord wsX4_isWord) := goodIn_app (goodIn_of _ (by decide +kernel)) ggX4_removeWord_X4_isWord
set_option maxRecDepth 20000 in
theorem ggX4_removeWord_X4_act : GoodIn wsX4_removeWord wsX4_act := goodIn_r _ [14, 15, 16, 2, 17, 18, 19, 20, 21, 22, 23, 24, 25, 26, 27, 28, 29] (by decide +kernel) (by decide +kernel)
set_option maxRecDepth 20000 in
theorem gX4_removeWord_X4_act : GoodIn wsX4_removeWord (wsV RX4 96 RX4 yX4_act wsX4_act) := goodIn_app (goodIn_of _ (by decide +kernel)) ggX4_removeWord_X4_act
set_option maxRecDepth 20000 in
theorem ggX4_takeOff_X4_set : GoodIn wsX4_takeOff wsX4_set := goodIn_r _ [5, 6, 7, 8, 9, 10, 11, 12, 13, 14, 15, 16, 17, 18, 19] (by decide +kernel) (by decide +kernel)
set_option maxRecDepth 20000 in
theorem gX4_takeOff_X4_set : GoodIn wsX4_takeOff (wsV RX4 81 RX4 yX4_set wsX4_set) := goodIn_app (goodIn_of _ (by decide +kernel)) ggX4_takeOff_X4_set
set_option maxRecDepth 20000 in
theorem ggX4_setWord_X4_isWord : GoodIn wsX4_setWord wsX4_isWord := goodIn_r _ [6, 7, 8, 9, 5, 10, 35, 36, 37, 38, 39, 40, 41, 42, 43, 44, 45, 46, 47] (by decide +kernel) (by decide +kernel)
set_option maxRecDepth 20000 in
theorem gX4_setWord_X4_isWord : GoodIn wsX4_setWord (wsV RX4 103 RX4 yX4_isWord wsX4_isWord) := goodIn_app (goodIn_of _ (by decide +kernel)) ggX4_setWord_X4_isWord
set_option maxRecDepth 20000 in
theorem ggX4_setWord_X4_isPart : GoodIn wsX4_setWord wsX4_isPart := goodIn_r _ [13, 14, 15, 16, 8, 9, 5, 10] (by decide +kernel) (by decide +kernel)
set_option maxRecDepth 20000 in
theorem gX4_setWord_X4_isPart : GoodIn wsX4_setWord (va_wsS RX4 93 yX4_isPart wsX4_isPart) := goodIn_app (goodIn_of _ (by decide +kernel)) ggX4_setWord_X4_isPart
set_option maxRecDepth 20000 in
theorem ggX4_setWord_X4_act : GoodIn wsX4_setWord wsX4_act := goodIn_r _ [20, 21, 22, 7, 35, 36, 37, 38, 39, 40, 41, 42, 43, 44, 45, 46, 47] (by decide +kernel) (by decide +kernel)
set_option maxRecDepth 20000 in
theorem gX4_setWord_X4_act : GoodIn wsX4_setWord (wsV RX4 96 RX4 yX4_act wsX4_act) := goodIn_app (goodIn_of _ (by decide +kernel)) ggX4_setWord_X4_act
set_option maxRecDepth 20000 in
theorem ggX4_setWord_X4_of : GoodIn wsX4_setWord wsX4_of := goodIn_r _ [26, 7, 35, 36, 37, 38, 39, 40, 41, 42, 43, 44, 45, 46, 47] (by decide +kernel) (by decide +kernel)
set_option maxRecDepth 20000 in
theorem gX4_setWord_X4_of : GoodIn wsX4_setWord (wsV RX4 37 RX4 yX4_of wsX4_of) := goodIn_app (goodIn_of _ (by decide +kernel)) ggX4_setWord_X4_of
set_option maxRecDepth 20000 in
theorem ggX4_setWord_X4_set : GoodIn wsX4_setWord wsX4_set := goodIn_r _ [30, 7, 35, 36, 37, 38, 39, 40, 41, 42, 43, 44, 45, 46, 47] (by decide +kernel) (by decide +kernel)
set_option maxRecDepth 20000 in
theorem gX4_setWord_X4_set : GoodIn wsX4_setWord (wsV RX4 81 RX4 yX4_set wsX4_set) := goodIn_app (goodIn_of _ (by decide +kernel)) ggX4_setWord_X4_set
set_option maxRecDepth 20000 in
theorem ggX4_setWord_X4_takeOff : GoodIn wsX4_setWord wsX4_takeOff := goodIn_r _ [34, 27, 28, 29, 5, 30, 7, 35, 36, 37, 38, 39, 40, 41, 42, 43, 44, 45, 46, 47] (by decide +kernel) (by decide +kernel)
set_option maxRecDepth 20000 in
theorem gX4_setWord_X4_takeOff : GoodIn wsX4_setWord (wsV RX4 106 RX4 yX4_takeOff wsX4_takeOff) := goodIn_app (goodIn_of _ (by decide +kernel)) ggX4_setWord_X4_takeOff
set_option maxRecDepth 20000 in
theorem ggX4_addShot_X4_in : GoodIn wsX4_addShot wsX4_in := goodIn_r _ [7] (by decide +kernel) (by decide +kernel)
set_option maxRecDepth 20000 in
theorem gX4_addShot_X4_in : GoodIn wsX4_addShot (va_wsS RX4 33 yX4_in wsX4_in) := goodIn_app (goodIn_of _ (by decide +kernel)) ggX4_addShot_X4_in
set_option maxRecDepth 20000 in
theorem ggX4_addShot_X4_shotOf : GoodIn wsX4_addShot wsX4_shotOf := goodIn_r _ [11, 3, 22, 23, 24, 25, 26, 27, 28, 29, 30, 31, 32, 33, 34] (by decide +kernel) (by decide +kernel)
set_option maxRecDepth 20000 in
theorem gX4_addShot_X4_shotOf : GoodIn wsX4_addShot (wsV RX4 112 RX4 yX4_shotOf wsX4_shotOf) := goodIn_app (goodIn_of _ (by decide +kernel)) ggX4_addShot_X4_shotOf
set_option maxRecDepth 20000 in
theorem ggX4_addShot_X4_act : GoodIn wsX4_addShot wsX4_act := goodIn_r _ [15, 16, 17, 3, 22, 23, 24, 25, 26, 27, 28, 29, 30, 31, 32, 33, 34] (by decide +kernel) (by decide +kernel)
set_option maxRecDepth 20000 in
theorem gX4_addShot_X4_act : GoodIn wsX4_addShot (wsV RX4 96 RX4 yX4_act wsX4_act) := goodIn_app (goodIn_of _ (by decide +kernel)) ggX4_addShot_X4_act
set_option maxRecDepth 20000 in
theorem ggX4_addShot_X4_makeShot : GoodIn wsX4_addShot wsX4_makeShot := goodIn_r _ [21, 3, 22, 23, 24, 25, 26, 27, 28, 29, 30, 31, 32, 33, 34] (by decide +kernel) (by decide +kernel)
set_option maxRecDepth 20000 in
theorem gX4_addShot_X4_makeShot : GoodIn wsX4_addShot (wsV RX4 115 RX4 yX4_makeShot wsX4_makeShot) := goodIn_app (goodIn_of _ (by decide +kernel)) ggX4_addShot_X4_makeShot
set_option maxRecDepth 20000 in
theorem ggX4_removeShot_X4_in : GoodIn wsX4_removeShot wsX4_in := goodIn_r _ [7] (by decide +kernel) (by decide +kernel)
set_option maxRecDepth 20000 in
theorem gX4_removeShot_X4_in : GoodIn wsX4_removeShot (va_wsS RX4 33 yX4_in wsX4_in) := goodIn_app (goodIn_of _ (by decide +kernel)) ggX4_removeShot_X4_in
set_option maxRecDepth 20000 in
theorem ggX4_removeShot_X4_shotOf : GoodIn wsX4_removeShot wsX4_shotOf := goodIn_r _ [11, 3, 18, 19, 20, 21, 22, 23, 24, 25, 26, 27, 28, 29, 30] (by decide +kernel) (by decide +kernel)
set_option maxRecDepth 20000 in
theorem gX4_removeShot_X4_shotOf : GoodIn wsX4_removeShot (wsV RX4 112 RX4 yX4_shotOf wsX4_shotOf) := goodIn_app (goodIn_of _ (by decide +kernel)) ggX4_removeShot_X4_shotOf
set_option maxRecDepth 20000 in
theorem ggX4_removeShot_X4_act : GoodIn wsX4_removeShot wsX4_act := goodIn_r _ [15, 16, 17, 3, 18, 19, 20, 21, 22, 23, 24, 25, 26, 27, 28, 29, 30] (by decide +kernel) (by decide +kernel)
set_option maxRecDepth 20000 in
theorem gX4_removeShot_X4_act : GoodIn wsX4_removeShot (wsV RX4 96 RX4 yX4_act wsX4_act) := goodIn_app (goodIn_of _ (by decide +kernel)) ggX4_removeShot_X4_act
set_option maxRecDepth 20000 in
theorem ggX4_setSpeed_X4_in : GoodIn wsX4_setSpeed wsX4_in := goodIn_r _ [8] (by decide +kernel) (by decide +kernel)
set_option maxRecDepth 20000 in
theorem gX4_setSpeed_X4_in : GoodIn wsX4_setSpeed (va_wsS RX4 33 yX4_in wsX4_in) := goodIn_app (goodIn_of _ (by decide +kernel)) ggX4_setSpeed_X4_in
set_option maxRecDepth 20000 in
theorem ggX4_setSpeed_X4_act : GoodIn wsX4_setSpeed wsX4_act := goodIn_r _ [12, 13, 14, 4, 15, 16, 17, 18, 19, 20, 21, 22, 23, 24, 25, 26, 27] (by decide +kernel) (by decide +kernel)
set_option maxRecDepth 20000 in
theorem gX4_setSpeed_X4_act : GoodIn wsX4_setSpeed (wsV RX4 96 RX4 yX4_act wsX4_act) := goodIn_app (goodIn_of _ (by decide +kernel)) ggX4_setSpeed_X4_act
set_option maxRecDepth 20000 in
theorem ggX4_append_X4_in : GoodIn wsX4_append wsX4_in := goodIn_r _ [8] (by decide +kernel) (by decide +kernel)
set_option maxRecDepth 20000 in
theorem gX4_append_X4_in : GoodIn wsX4_append (va_wsS RX4 33 yX4_in wsX4_in) := goodIn_app (goodIn_of _ (by decide +kernel)) ggX4_append_X4_in
set_option maxRecDepth 20000 in
theorem ggX4_read_X4_here : GoodIn wsX4_read wsX4_here := goodIn_r _ [17, 1, 18, 12, 22, 23, 24, 25, 26, 27, 28, 29, 30, 31, 32, 33, 34] (by decide +kernel) (by decide +kernel)
set_option maxRecDepth 20000 in
theorem gX4_read_X4_here : GoodIn wsX4_read (wsV RX4 130 RX4 yX4_here wsX4_here) := goodIn_app (goodIn_of _ (by decide +kernel)) ggX4_read_X4_here
set_option maxRecDepth 20000 in
theorem ggX4_read_X4_in : GoodIn wsX4_read wsX4_in := goodIn_r _ [21] (by decide +kernel) (by decide +kernel)
set_option maxRecDepth 20000 in
theorem gX4_read_X4_in : GoodIn wsX4_read (va_wsS RX4 33 yX4_in wsX4_in) := goodIn_app (goodIn_of _ (by decide +kernel)) ggX4_read_X4_in
set_option maxRecDepth 20000 in
theorem ggX4_accept_X4_read : GoodIn wsX4_accept wsX4_read := goodIn_r _ [7, 8, 9, 1, 10, 11, 12, 13, 14, 15, 16, 17, 18, 19, 20, 21, 6, 22, 23, 24, 25, 26, 27, 28, 29, 30, 31, 32, 33, 34, 35, 36, 37, 38, 39] (by decide +kernel) (by decide +kernel)
set_option maxRecDepth 20000 in
theorem gX4_accept_X4_read : GoodIn wsX4_accept (wsV RX4 162 RX4 yX4_read wsX4_read) := goodIn_app (goodIn_of _ (by decide +kernel)) ggX4_accept_X4_read
set_option maxRecDepth 20000 in
theorem ggX4_number_X4_in : GoodIn wsX4_number wsX4_in := goodIn_r _ [6] (by decide +kernel) (by decide +kernel)
set_option maxRecDepth 20000 in
theorem gX4_number_X4_in : GoodIn wsX4_number (va_wsS RX4 33 yX4_in wsX4_in) := goodIn_app (goodIn_of _ (by decide +kernel)) ggX4_number_X4_in
set_option maxRecDepth 20000 in
theorem ggX4_number_X4_accept : GoodIn wsX4_number wsX4_accept := goodIn_r _ [10, 2, 11, 12, 13, 14, 5, 15, 16, 17, 18, 19, 1, 20, 21, 22, 23, 24, 25, 26, 27, 28, 29, 30, 3, 4, 6, 31, 32, 33, 34, 35, 36, 37, 38, 39, 40, 41, 42, 43] (by decide +kernel) (by decide +kernel)
set_option maxRecDepth 20000 in
theorem gX4_number_X4_accept : GoodIn wsX4_number (wsV RX4 165 RX4 yX4_accept wsX4_accept) := goodIn_app (goodIn_of _ (by decide +kernel)) ggX4_number_X4_accept
set_option maxRecDepth 20000 in
theorem ggX4_readWord_X4_accept : GoodIn wsX4_readWord wsX4_accept := goodIn_r _ [10, 11, 4, 12, 13, 14, 9, 15, 2, 1, 16, 17, 3, 18, 19, 20, 21, 22, 5, 23, 24, 25, 26, 27, 28, 29, 30, 52, 53, 54, 55, 56, 57, 58, 59, 60, 61, 62, 63, 64] (by decide +kernel) (by decide +kernel)
set_option maxRecDepth 20000 in
theorem gX4_readWord_X4_accept : GoodIn wsX4_readWord (wsV RX4 165 RX4 yX4_accept wsX4_accept) := goodIn_app (goodIn_of _ (by decide +kernel)) ggX4_readWord_X4_accept
set_option maxRecDepth 20000 in
theorem ggX4_readWord_X4_number : GoodIn wsX4_readWord wsX4_number := goodIn_r _ [34, 3, 11, 28, 29, 9, 30, 6, 7, 8, 10, 4, 12, 13, 14, 15, 2, 1, 16, 17, 18, 19, 20, 21, 22, 5, 23, 24, 25, 26, 27, 52, 53, 54, 55, 56, 57, 58, 59, 60, 61, 62, 63, 64] (by decide +kernel) (by decide +kernel)
set_option maxRecDepth 20000 in
theorem gX4_readWord_X4_number : GoodIn wsX4_readWord (wsV RX4 177 RX4 yX4_number wsX4_number) := goodIn_app (goodIn_of _ (by decide +kernel)) ggX4_readWord_X4_number
set_option maxRecDepth 20000 in
theorem ggX4_readWord_X4_wayOf : GoodIn wsX4_readWord wsX4_wayOf := goodIn_r _ [38, 3, 11, 39, 40, 41, 42, 52, 53, 54, 55, 56, 57, 58, 59, 60, 61, 62, 63, 64] (by decide +kernel) (by decide +kernel)
set_option maxRecDepth 20000 in
theorem gX4_readWord_X4_wayOf : GoodIn wsX4_readWord (wsV RX4 180 RX4 yX4_wayOf wsX4_wayOf) := goodIn_app (goodIn_of _ (by decide +kernel)) ggX4_readWord_X4_wayOf
set_option maxRecDepth 20000 in
theorem ggX4_readWord_X4_makeWord : GoodIn wsX4_readWord wsX4_makeWord := goodIn_r _ [46, 47, 48, 49, 50, 9, 51, 52, 53, 54, 55, 56, 57, 58, 59, 60, 61, 62, 63, 64] (by decide +kernel) (by decide +kernel)
set_option maxRecDepth 20000 in
theorem gX4_readWord_X4_makeWord : GoodIn wsX4_readWord (wsV RX4 99 RX4 yX4_makeWord wsX4_makeWord) := goodIn_app (goodIn_of _ (by decide +kernel)) ggX4_readWord_X4_makeWord
set_option maxRecDepth 20000 in
theorem ggX4_readWord_X4_set : GoodIn wsX4_readWord wsX4_set := goodIn_r _ [51, 47, 52, 53, 54, 55, 56, 57, 58, 59, 60, 61, 62, 63, 64] (by decide +kernel) (by decide +kernel)
set_option maxRecDepth 20000 in
theorem gX4_readWord_X4_set : GoodIn wsX4_readWord (wsV RX4 81 RX4 yX4_set wsX4_set) := goodIn_app (goodIn_of _ (by decide +kernel)) ggX4_readWord_X4_set
set_option maxRecDepth 20000 in
theorem ggX4_readShot_X4_in : GoodIn wsX4_readShot wsX4_in := goodIn_r _ [8] (by decide +kernel) (by decide +kernel)
set_option maxRecDepth 20000 in
theorem gX4_readShot_X4_in : GoodIn wsX4_readShot (va_wsS RX4 33 yX4_in wsX4_in) := goodIn_app (goodIn_of _ (by decide +kernel)) ggX4_readShot_X4_in
set_option maxRecDepth 20000 in
theorem ggX4_readShot_X4_shotOf : GoodIn wsX4_readShot wsX4_shotOf := goodIn_r _ [12, 13, 41, 42, 43, 44, 45, 46, 47, 48, 49, 50, 51, 52, 53] (by decide +kernel) (by decide +kernel)
set_option maxRecDepth 20000 in
theorem gX4_readShot_X4_shotOf : GoodIn wsX4_readShot (wsV RX4 112 RX4 yX4_shotOf wsX4_shotOf) := goodIn_app (goodIn_of _ (by decide +kernel)) ggX4_readShot_X4_shotOf
set_option maxRecDepth 20000 in
theorem ggX4_readShot_X4_accept : GoodIn wsX4_readShot wsX4_accept := goodIn_r _ [17, 2, 4, 18, 19, 20, 7, 21, 22, 23, 24, 25, 1, 26, 27, 28, 29, 30, 31, 32, 33, 34, 35, 36, 5, 6, 8, 41, 42, 43, 44, 45, 46, 47, 48, 49, 50, 51, 52, 53] (by decide +kernel) (by decide +kernel)
set_option maxRecDepth 20000 in
theorem gX4_readShot_X4_accept : GoodIn wsX4_readShot (wsV RX4 165 RX4 yX4_accept wsX4_accept) := goodIn_app (goodIn_of _ (by decide +kernel)) ggX4_readShot_X4_accept
set_option maxRecDepth 20000 in
theorem ggX4_readShot_X4_makeShot : GoodIn wsX4_readShot wsX4_makeShot := goodIn_r _ [40, 13, 41, 42, 43, 44, 45, 46, 47, 48, 49, 50, 51, 52, 53] (by decide +kernel) (by decide +kernel)
set_option maxRecDepth 20000 in
theorem gX4_readShot_X4_makeShot : GoodIn wsX4_readShot (wsV RX4 115 RX4 yX4_makeShot wsX4_makeShot) := goodIn_app (goodIn_of _ (by decide +kernel)) ggX4_readShot_X4_makeShot
set_option maxRecDepth 20000 in
theorem ggX4_readItem_X4_accept : GoodIn wsX4_readItem wsX4_accept := goodIn_r _ [11, 2, 6, 12, 13, 14, 10, 15, 16, 17, 18, 19, 1, 20, 21, 22, 23, 24, 25, 26, 27, 28, 29, 30, 31, 32, 33, 71, 72, 73, 74, 75, 76, 77, 78, 79, 80, 81, 82, 83] (by decide +kernel) (by decide +kernel)
set_option maxRecDepth 20000 in
theorem gX4_readItem_X4_accept : GoodIn wsX4_readItem (wsV RX4 165 RX4 yX4_accept wsX4_accept) := goodIn_app (goodIn_of _ (by decide +kernel)) ggX4_readItem_X4_accept
set_option maxRecDepth 20000 in
theorem ggX4_readItem_X4_readWord : GoodIn wsX4_readItem wsX4_readWord := goodIn_r _ [37, 17, 16, 1, 6, 25, 7, 8, 9, 10, 11, 2, 12, 13, 14, 15, 18, 19, 20, 21, 22, 23, 24, 26, 27, 28, 29, 30, 31, 32, 33, 38, 39, 40, 41, 42, 43, 44, 45, 46, 47, 48, 49, 50, 51, 52, 53, 5, 54, 55, 56, 57, 71, 72, 73, 74, 75, 76, 77, 78, 79, 80, 81, 82, 83] (by decide +kernel) (by decide +kernel)
set_option maxRecDepth 20000 in
theorem gX4_readItem_X4_readWord : GoodIn wsX4_readItem (wsV RX4 187 RX4 yX4_readWord wsX4_readWord) := goodIn_app (goodIn_of _ (by decide +kernel)) ggX4_readItem_X4_readWord
set_option maxRecDepth 20000 in
theorem ggX4_readItem_X4_readShot : GoodIn wsX4_readItem wsX4_readShot := goodIn_r _ [61, 1, 2, 62, 6, 31, 32, 10, 33, 63, 64, 65, 66, 5, 7, 8, 9, 11, 12, 13, 14, 15, 16, 17, 18, 19, 20, 21, 22, 23, 24, 25, 26, 27, 28, 29, 30, 67, 68, 69, 70, 71, 72, 73, 74, 75, 76, 77, 78, 79, 80, 81, 82, 83] (by decide +kernel) (by decide +kernel)
set_option maxRecDepth 20000 in
theorem gX4_readItem_X4_readShot : GoodIn wsX4_readItem (wsV RX4 190 RX4 yX4_readShot wsX4_readShot) := goodIn_app (goodIn_of _ (by decide +kernel)) ggX4_readItem_X4_readShot
set_option maxRecDepth 20000 in
theorem ggX4_load_X4_hold : GoodIn wsX4_load wsX4_hold := goodIn_r _ [11, 12, 13, 91, 92, 93, 94, 95, 96, 97, 98, 99, 100, 101, 102, 103] (by decide +kernel) (by decide +kernel)
set_option maxRecDepth 20000 in
theorem gX4_load_X4_hold : GoodIn wsX4_load (wsV RX4 193 RX4 yX4_hold wsX4_hold) := goodIn_app (goodIn_of _ (by decide +kernel)) ggX4_load_X4_hold
set_option maxRecDepth 20000 in
theorem ggX4_load_X4_read : GoodIn wsX4_load wsX4_read := goodIn_r _ [17, 2, 5, 18, 19, 20, 4, 21, 22, 23, 24, 25, 26, 27, 28, 29, 10, 30, 6, 31, 32, 33, 91, 92, 93, 94, 95, 96, 97, 98, 99, 100, 101, 102, 103] (by decide +kernel) (by decide +kernel)
set_option maxRecDepth 20000 in
theorem gX4_load_X4_read : GoodIn wsX4_load (wsV RX4 162 RX4 yX4_read wsX4_read) := goodIn_app (goodIn_of _ (by decide +kernel)) ggX4_load_X4_read
set_option maxRecDepth 20000 in
theorem ggX4_load_X4_readItem : GoodIn wsX4_load wsX4_readItem := goodIn_r _ [37, 4, 18, 38, 39, 13, 3, 40, 41, 42, 10, 43, 14, 15, 16, 17, 2, 5, 19, 20, 21, 22, 23, 24, 25, 26, 27, 28, 29, 30, 6, 31, 32, 33, 44, 45, 46, 47, 48, 49, 50, 51, 52, 53, 54, 55, 56, 57, 58, 59, 60, 61, 62, 63, 64, 65, 66, 67, 68, 69, 70, 71, 72, 73, 74, 75, 76, 77, 78, 79, 80, 91, 92, 93, 94, 95, 96, 97, 98, 99, 100, 101, 102, 103] (by decide +kernel) (by decide +kernel)
set_option maxRecDepth 20000 in
theorem gX4_load_X4_readItem : GoodIn wsX4_load (wsV RX4 196 RX4 yX4_readItem wsX4_readItem) := goodIn_app (goodIn_of _ (by decide +kernel)) ggX4_load_X4_readItem
set_option maxRecDepth 20000 in
theorem ggX4_load_X4_exchange : GoodIn wsX4_load wsX4_exchange := goodIn_r _ [84, 13, 12, 91, 92, 93, 94, 95, 96, 97, 98, 99, 100, 101, 102, 103] (by decide +kernel) (by decide +kernel)
set_option maxRecDepth 20000 in
theorem gX4_load_X4_exchange : GoodIn wsX4_load (wsV RX4 199 RX4 yX4_exchange wsX4_exchange) := goodIn_app (goodIn_of _ (by decide +kernel)) ggX4_load_X4_exchange
set_option maxRecDepth 20000 in
theorem ggX4_load_X4_act : GoodIn wsX4_load wsX4_act := goodIn_r _ [88, 89, 90, 13, 91, 92, 93, 94, 95, 96, 97, 98, 99, 100, 101, 102, 103] (by decide +kernel) (by decide +kernel)
set_option maxRecDepth 20000 in
theorem gX4_load_X4_act : GoodIn wsX4_load (wsV RX4 96 RX4 yX4_act wsX4_act) := goodIn_app (goodIn_of _ (by decide +kernel)) ggX4_load_X4_act
set_option maxRecDepth 20000 in
theorem ggX4_isPlace_X4_isWord : GoodIn wsX4_isPlace wsX4_isWord := goodIn_r _ [6, 7, 8, 9, 5, 10, 15, 16, 17, 18, 19, 20, 21, 22, 23, 24, 25, 26, 27] (by decide +kernel) (by decide +kernel)
set_option maxRecDepth 20000 in
theorem gX4_isPlace_X4_isWord : GoodIn wsX4_isPlace (wsV RX4 103 RX4 yX4_isWord wsX4_isWord) := goodIn_app (goodIn_of _ (by decide +kernel)) ggX4_isPlace_X4_isWord
set_option maxRecDepth 20000 in
theorem ggX4_isPlace_X4_in : GoodIn wsX4_isPlace wsX4_in := goodIn_r _ [10] (by decide +kernel) (by decide +kernel)
set_option maxRecDepth 20000 in
theorem gX4_isPlace_X4_in : GoodIn wsX4_isPlace (va_wsS RX4 33 yX4_in wsX4_in) := goodIn_app (goodIn_of _ (by decide +kernel)) ggX4_isPlace_X4_in
set_option maxRecDepth 20000 in
theorem ggX4_isPlace_X4_of : GoodIn wsX4_isPlace wsX4_of := goodIn_r _ [14, 7, 15, 16, 17, 18, 19, 20, 21, 22, 23, 24, 25, 26, 27] (by decide +kernel) (by decide +kernel)
set_option maxRecDepth 20000 in
theorem gX4_isPlace_X4_of : GoodIn wsX4_isPlace (wsV RX4 37 RX4 yX4_of wsX4_of) := goodIn_app (goodIn_of _ (by decide +kernel)) ggX4_isPlace_X4_of
set_option maxRecDepth 20000 in
theorem ggX4_lay_X4_set : GoodIn wsX4_lay wsX4_set := goodIn_r _ [5, 6, 7, 8, 9, 10, 11, 12, 13, 14, 15, 16, 17, 18, 19] (by decide +kernel) (by decide +kernel)
set_option maxRecDepth 20000 in
theorem gX4_lay_X4_set : GoodIn wsX4_lay (wsV RX4 81 RX4 yX4_set wsX4_set) := goodIn_app (goodIn_of _ (by decide +kernel)) ggX4_lay_X4_set
set_option maxRecDepth 20000 in
theorem ggX4_put_X4_isPlace : GoodIn wsX4_put wsX4_isPlace := goodIn_r _ [6, 7, 8, 9, 10, 5, 11, 12, 13, 14, 15, 16, 17, 18, 19, 94, 95, 96, 97, 98, 99, 100, 101, 102, 103, 104, 105, 106] (by decide +kernel) (by decide +kernel)
set_option maxRecDepth 20000 in
theorem gX4_put_X4_isPlace : GoodIn wsX4_put (wsV RX4 202 RX4 yX4_isPlace wsX4_isPlace) := goodIn_app (goodIn_of _ (by decide +kernel)) ggX4_put_X4_isPlace
set_option maxRecDepth 20000 in
theorem ggX4_put_X4_hold : GoodIn wsX4_put wsX4_hold := goodIn_r _ [23, 24, 12, 94, 95, 96, 97, 98, 99, 100, 101, 102, 103, 104, 105, 106] (by decide +kernel) (by decide +kernel)
set_option maxRecDepth 20000 in
theorem gX4_put_X4_hold : GoodIn wsX4_put (wsV RX4 193 RX4 yX4_hold wsX4_hold) := goodIn_app (goodIn_of _ (by decide +kernel)) ggX4_put_X4_hold
set_option maxRecDepth 20000 in
theorem ggX4_put_X4_lay : GoodIn wsX4_put wsX4_lay := goodIn_r _ [28, 29, 30, 31, 5, 32, 12, 94, 95, 96, 97, 98, 99, 100, 101, 102, 103, 104, 105, 106] (by decide +kernel) (by decide +kernel)
set_option maxRecDepth 20000 in
theorem gX4_put_X4_lay : GoodIn wsX4_put (wsV RX4 205 RX4 yX4_lay wsX4_lay) := goodIn_app (goodIn_of _ (by decide +kernel)) ggX4_put_X4_lay
set_option maxRecDepth 20000 in
theorem ggX4_put_X4_meetsAny : GoodIn wsX4_put wsX4_meetsAny := goodIn_r _ [36, 12, 37, 38, 39, 5, 40, 16, 17, 18, 19, 41, 42, 43, 44, 45, 46, 47, 48, 49, 50, 51, 7, 52, 53, 54, 55, 56, 57, 58, 59, 60, 61, 62, 63, 64, 65, 66, 67, 68, 69, 70, 71, 72, 13, 14, 15, 73, 74, 75, 76, 77, 78, 79, 94, 95, 96, 97, 98, 99, 100, 101, 102, 103, 104, 105, 106] (by decide +kernel) (by decide +kernel)
set_option maxRecDepth 20000 in
theorem gX4_put_X4_meetsAny : GoodIn wsX4_put (wsV RX4 208 RX4 yX4_meetsAny wsX4_meetsAny) := goodIn_app (goodIn_of _ (by decide +kernel)) ggX4_put_X4_meetsAny
set_option maxRecDepth 20000 in
theorem ggX4_put_X4_exchange : GoodIn wsX4_put wsX4_exchange := goodIn_r _ [83, 12, 24, 94, 95, 96, 97, 98, 99, 100, 101, 102, 103, 104, 105, 106] (by decide +kernel) (by decide +kernel)
set_option maxRecDepth 20000 in
theorem gX4_put_X4_exchange : GoodIn wsX4_put (wsV RX4 199 RX4 yX4_exchange wsX4_exchange) := goodIn_app (goodIn_of _ (by decide +kernel)) ggX4_put_X4_exchange
set_option maxRecDepth 20000 in
theorem ggX4_put_X4_act : GoodIn wsX4_put wsX4_act := goodIn_r _ [87, 88, 89, 12, 94, 95, 96, 97, 98, 99, 100, 101, 102, 103, 104, 105, 106] (by decide +kernel) (by decide +kernel)
set_option maxRecDepth 20000 in
theorem gX4_put_X4_act : GoodIn wsX4_put (wsV RX4 96 RX4 yX4_act wsX4_act) := goodIn_app (goodIn_of _ (by decide +kernel)) ggX4_put_X4_act
set_option maxRecDepth 20000 in
theorem ggX4_put_X4_putMany : GoodIn wsX4_put wsX4_putMany := goodIn_r _ [93, 12, 37, 38, 39, 5, 40, 16, 17, 18, 19, 94, 95, 96, 97, 98, 99, 100, 101, 102, 103, 104, 105, 106] (by decide +kernel) (by decide +kernel)
set_option maxRecDepth 20000 in
theorem gX4_put_X4_putMany : GoodIn wsX4_put (wsV RX4 211 RX4 yX4_putMany wsX4_putMany) := goodIn_app (goodIn_of _ (by decide +kernel)) ggX4_put_X4_putMany
set_option maxRecDepth 20000 in
theorem ggX4_take_X4_isWord : GoodIn wsX4_take wsX4_isWord := goodIn_r _ [6, 7, 8, 9, 5, 10, 37, 38, 39, 40, 41, 42, 43, 44, 45, 46, 47, 48, 49] (by decide +kernel) (by decide +kernel)
set_option maxRecDepth 20000 in
theorem gX4_take_X4_isWord : GoodIn wsX4_take (wsV RX4 103 RX4 yX4_isWord wsX4_isWord) := goodIn_app (goodIn_of _ (by decide +kernel)) ggX4_take_X4_isWord
set_option maxRecDepth 20000 in
theorem ggX4_take_X4_isPut : GoodIn wsX4_take wsX4_isPut := goodIn_r _ [14, 15, 16, 17, 5, 18, 7, 37, 38, 39, 40, 41, 42, 43, 44, 45, 46, 47, 48, 49] (by decide +kernel) (by decide +kernel)
set_option maxRecDepth 20000 in
theorem gX4_take_X4_isPut : GoodIn wsX4_take (wsV RX4 41 RX4 yX4_isPut wsX4_isPut) := goodIn_app (goodIn_of _ (by decide +kernel)) ggX4_take_X4_isPut
set_option maxRecDepth 20000 in
theorem ggX4_take_X4_act : GoodIn wsX4_take wsX4_act := goodIn_r _ [22, 23, 24, 7, 37, 38, 39, 40, 41, 42, 43, 44, 45, 46, 47, 48, 49] (by decide +kernel) (by decide +kernel)
set_option maxRecDepth 20000 in
theorem gX4_take_X4_act : GoodIn wsX4_take (wsV RX4 96 RX4 yX4_act wsX4_act) := goodIn_app (goodIn_of _ (by decide +kernel)) ggX4_take_X4_act
set_option maxRecDepth 20000 in
theorem ggX4_take_X4_takeOff : GoodIn wsX4_take wsX4_takeOff := goodIn_r _ [28, 29, 30, 31, 5, 32, 7, 37, 38, 39, 40, 41, 42, 43, 44, 45, 46, 47, 48, 49] (by decide +kernel) (by decide +kernel)
set_option maxRecDepth 20000 in
theorem gX4_take_X4_takeOff : GoodIn wsX4_take (wsV RX4 106 RX4 yX4_takeOff wsX4_takeOff) := goodIn_app (goodIn_of _ (by decide +kernel)) ggX4_take_X4_takeOff
set_option maxRecDepth 20000 in
theorem ggX4_take_X4_putMany : GoodIn wsX4_take wsX4_putMany := goodIn_r _ [36, 7, 11, 12, 13, 5, 14, 15, 16, 17, 18, 37, 38, 39, 40, 41, 42, 43, 44, 45, 46, 47, 48, 49] (by decide +kernel) (by decide +kernel)
set_option maxRecDepth 20000 in
theorem gX4_take_X4_putMany : GoodIn wsX4_take (wsV RX4 211 RX4 yX4_putMany wsX4_putMany) := goodIn_app (goodIn_of _ (by decide +kernel)) ggX4_take_X4_putMany
set_option maxRecDepth 20000 in
theorem ggX4_nextWord_X4_of : GoodIn wsX4_nextWord wsX4_of := goodIn_r _ [7, 1, 8, 9, 10, 11, 12, 13, 14, 15, 16, 17, 18, 19, 20] (by decide +kernel) (by decide +kernel)
set_option maxRecDepth 20000 in
theorem gX4_nextWord_X4_of : GoodIn wsX4_nextWord (wsV RX4 37 RX4 yX4_of wsX4_of) := goodIn_app (goodIn_of _ (by decide +kernel)) ggX4_nextWord_X4_of
set_option maxRecDepth 20000 in
theorem ggX4_laysIn_X4_of : GoodIn wsX4_laysIn wsX4_of := goodIn_r _ [5, 6, 70, 71, 72, 73, 74, 75, 76, 77, 78, 79, 80, 81, 82] (by decide +kernel) (by decide +kernel)
set_option maxRecDepth 20000 in
theorem gX4_laysIn_X4_of : GoodIn wsX4_laysIn (wsV RX4 37 RX4 yX4_of wsX4_of) := goodIn_app (goodIn_of _ (by decide +kernel)) ggX4_laysIn_X4_of
set_option maxRecDepth 20000 in
theorem ggX4_laysIn_X4_in : GoodIn wsX4_laysIn wsX4_in := goodIn_r _ [9] (by decide +kernel) (by decide +kernel)
set_option maxRecDepth 20000 in
theorem gX4_laysIn_X4_in : GoodIn wsX4_laysIn (va_wsS RX4 33 yX4_in wsX4_in) := goodIn_app (goodIn_of _ (by decide +kernel)) ggX4_laysIn_X4_in
set_option maxRecDepth 20000 in
theorem ggX4_laysIn_X4_lay : GoodIn wsX4_laysIn wsX4_lay := goodIn_r _ [13, 14, 15, 16, 4, 17, 6, 70, 71, 72, 73, 74, 75, 76, 77, 78, 79, 80, 81, 82] (by decide +kernel) (by decide +kernel)
set_option maxRecDepth 20000 in
theorem gX4_laysIn_X4_lay : GoodIn wsX4_laysIn (wsV RX4 205 RX4 yX4_lay wsX4_lay) := goodIn_app (goodIn_of _ (by decide +kernel)) ggX4_laysIn_X4_lay
set_option maxRecDepth 20000 in
theorem ggX4_laysIn_X4_meetsAny : GoodIn wsX4_laysIn wsX4_meetsAny := goodIn_r _ [21, 6, 22, 23, 24, 4, 25, 1, 2, 3, 5, 26, 27, 28, 29, 30, 31, 32, 33, 34, 35, 36, 37, 38, 39, 40, 41, 42, 43, 44, 45, 46, 47, 48, 49, 50, 51, 52, 53, 54, 55, 56, 57, 58, 7, 8, 9, 59, 60, 61, 62, 63, 64, 65, 70, 71, 72, 73, 74, 75, 76, 77, 78, 79, 80, 81, 82] (by decide +kernel) (by decide +kernel)
set_option maxRecDepth 20000 in
theorem gX4_laysIn_X4_meetsAny : GoodIn wsX4_laysIn (wsV RX4 208 RX4 yX4_meetsAny wsX4_meetsAny) := goodIn_app (goodIn_of _ (by decide +kernel)) ggX4_laysIn_X4_meetsAny
set_option maxRecDepth 20000 in
theorem ggX4_laysIn_X4_takeOff : GoodIn wsX4_laysIn wsX4_takeOff := goodIn_r _ [69, 14, 15, 16, 4, 17, 6, 70, 71, 72, 73, 74, 75, 76, 77, 78, 79, 80, 81, 82] (by decide +kernel) (by decide +kernel)
set_option maxRecDepth 20000 in
theorem gX4_laysIn_X4_takeOff : GoodIn wsX4_laysIn (wsV RX4 106 RX4 yX4_takeOff wsX4_takeOff) := goodIn_app (goodIn_of _ (by decide +kernel)) ggX4_laysIn_X4_takeOff
set_option maxRecDepth 20000 in
theorem ggX4_putAll_X4_act : GoodIn wsX4_putAll wsX4_act := goodIn_r _ [8, 9, 10, 2, 93, 94, 95, 96, 97, 98, 99, 100, 101, 102, 103, 104, 105] (by decide +kernel) (by decide +kernel)
set_option maxRecDepth 20000 in
theorem gX4_putAll_X4_act : GoodIn wsX4_putAll (wsV RX4 96 RX4 yX4_act wsX4_act) := goodIn_app (goodIn_of _ (by decide +kernel)) ggX4_putAll_X4_act
set_option maxRecDepth 20000 in
theorem ggX4_putAll_X4_takeOff : GoodIn wsX4_putAll wsX4_takeOff := goodIn_r _ [14, 15, 16, 17, 7, 18, 2, 93, 94, 95, 96, 97, 98, 99, 100, 101, 102, 103, 104, 105] (by decide +kernel) (by decide +kernel)
set_option maxRecDepth 20000 in
theorem gX4_putAll_X4_takeOff : GoodIn wsX4_putAll (wsV RX4 106 RX4 yX4_takeOff wsX4_takeOff) := goodIn_app (goodIn_of _ (by decide +kernel)) ggX4_putAll_X4_takeOff
set_option maxRecDepth 20000 in
theorem ggX4_putAll_X4_nextWord : GoodIn wsX4_putAll wsX4_nextWord := goodIn_r _ [22, 2, 3, 23, 24, 25, 7, 26, 93, 94, 95, 96, 97, 98, 99, 100, 101, 102, 103, 104, 105] (by decide +kernel) (by decide +kernel)
set_option maxRecDepth 20000 in
theorem gX4_putAll_X4_nextWord : GoodIn wsX4_putAll (wsV RX4 214 RX4 yX4_nextWord wsX4_nextWord) := goodIn_app (goodIn_of _ (by decide +kernel)) ggX4_putAll_X4_nextWord
set_option maxRecDepth 20000 in
theorem ggX4_putAll_X4_laneOf : GoodIn wsX4_putAll wsX4_laneOf := goodIn_r _ [29] (by decide +kernel) (by decide +kernel)
set_option maxRecDepth 20000 in
theorem gX4_putAll_X4_laneOf : GoodIn wsX4_putAll (va_wsS RX4 217 yX4_laneOf wsX4_laneOf) := goodIn_app (goodIn_of _ (by decide +kernel)) ggX4_putAll_X4_laneOf
set_option maxRecDepth 20000 in
theorem ggX4_putAll_X4_laysIn : GoodIn wsX4_putAll wsX4_laysIn := goodIn_r _ [33, 23, 24, 25, 7, 26, 2, 34, 35, 36, 37, 38, 39, 40, 15, 16, 17, 18, 41, 42, 43, 44, 45, 46, 47, 48, 49, 50, 51, 52, 53, 54, 55, 56, 57, 58, 59, 60, 61, 62, 63, 64, 65, 66, 67, 68, 69, 70, 71, 72, 73, 74, 75, 76, 77, 78, 79, 80, 81, 82, 83, 84, 85, 86, 87, 88, 11, 12, 13, 14, 93, 94, 95, 96, 97, 98, 99, 100, 101, 102, 103, 104, 105] (by decide +kernel) (by decide +kernel)
set_option maxRecDepth 20000 in
theorem gX4_putAll_X4_laysIn : GoodIn wsX4_putAll (wsV RX4 220 RX4 yX4_laysIn wsX4_laysIn) := goodIn_app (goodIn_of _ (by decide +kernel)) ggX4_putAll_X4_laysIn
set_option maxRecDepth 20000 in
theorem ggX4_putAll_X4_putMany : GoodIn wsX4_putAll wsX4_putMany := goodIn_r _ [92, 2, 45, 46, 47, 7, 48, 23, 24, 25, 26, 93, 94, 95, 96, 97, 98, 99, 100, 101, 102, 103, 104, 105] (by decide +kernel) (by decide +kernel)
set_option maxRecDepth 20000 in
theorem gX4_putAll_X4_putMany : GoodIn wsX4_putAll (wsV RX4 211 RX4 yX4_putMany wsX4_putMany) := goodIn_app (goodIn_of _ (by decide +kernel)) ggX4_putAll_X4_putMany
set_option maxRecDepth 20000 in
theorem ggX4_meetingPairs_X4_meetingOf : GoodIn wsX4_meetingPairs wsX4_meetingOf := goodIn_r _ [6, 7, 8, 9, 5, 10, 1, 11, 12, 13, 14, 15, 16, 17, 18, 19, 20, 21, 22, 23, 24, 25, 26, 27, 28, 29, 30, 31, 32, 33, 34, 35, 36, 37, 38, 39, 40, 41, 42, 43, 44, 45, 46, 47, 48, 49, 50, 51, 52, 53, 54, 55, 56, 57, 58, 59, 60, 61, 62, 63, 64, 65, 66] (by decide +kernel) (by decide +kernel)
set_option maxRecDepth 20000 in
theorem gX4_meetingPairs_X4_meetingOf : GoodIn wsX4_meetingPairs (wsV RX4 78 RX4 yX4_meetingOf wsX4_meetingOf) := goodIn_app (goodIn_of _ (by decide +kernel)) ggX4_meetingPairs_X4_meetingOf
set_option maxRecDepth 20000 in
theorem ggX4_count_X4_putMany : GoodIn wsX4_count wsX4_putMany := goodIn_r _ [9, 2, 10, 11, 12, 8, 13, 14, 15, 16, 17, 65, 66, 67, 68, 69, 70, 71, 72, 73, 74, 75, 76, 77] (by decide +kernel) (by decide +kernel)
set_option maxRecDepth 20000 in
theorem gX4_count_X4_putMany : GoodIn wsX4_count (wsV RX4 211 RX4 yX4_putMany wsX4_putMany) := goodIn_app (goodIn_of _ (by decide +kernel)) ggX4_count_X4_putMany
set_option maxRecDepth 20000 in
theorem ggX4_count_X4_meetingPairs : GoodIn wsX4_count wsX4_meetingPairs := goodIn_r _ [21, 2, 22, 23, 24, 8, 25, 14, 15, 16, 17, 26, 27, 28, 29, 30, 31, 32, 33, 10, 11, 12, 13, 34, 35, 36, 37, 38, 39, 40, 41, 42, 43, 44, 45, 46, 47, 48, 49, 50, 51, 52, 53, 54, 55, 56, 57, 58, 59, 60, 61, 62, 63, 64, 65, 66, 67, 68, 69, 70, 71, 72, 73, 74, 75, 76, 77] (by decide +kernel) (by decide +kernel)
set_option maxRecDepth 20000 in
theorem gX4_count_X4_meetingPairs : GoodIn wsX4_count (wsV RX4 223 RX4 yX4_meetingPairs wsX4_meetingPairs) := goodIn_app (goodIn_of _ (by decide +kernel)) ggX4_count_X4_meetingPairs
set_option maxRecDepth 20000 in
theorem ggX4_lastOn_X4_of : GoodIn wsX4_lastOn wsX4_of := goodIn_r _ [5, 6, 40, 41, 42, 43, 44, 45, 46, 47, 48, 49, 50, 51, 52] (by decide +kernel) (by decide +kernel)
set_option maxRecDepth 20000 in
theorem gX4_lastOn_X4_of : GoodIn wsX4_lastOn (wsV RX4 37 RX4 yX4_of wsX4_of) := goodIn_app (goodIn_of _ (by decide +kernel)) ggX4_lastOn_X4_of
set_option maxRecDepth 20000 in
theorem ggX4_lastOn_X4_isOn : GoodIn wsX4_lastOn wsX4_isOn := goodIn_r _ [10, 11, 12, 13, 14, 4, 15, 1, 2, 3, 5, 6, 16, 17, 18, 19, 20, 21, 22, 23, 24, 25, 26, 27, 28, 29, 30, 31, 32, 33, 34, 35, 36, 37, 38, 39, 40, 41, 42, 43, 44, 45, 46, 47, 48, 49, 50, 51, 52] (by decide +kernel) (by decide +kernel)
set_option maxRecDepth 20000 in
theorem gX4_lastOn_X4_isOn : GoodIn wsX4_lastOn (wsV RX4 64 RX4 yX4_isOn wsX4_isOn) := goodIn_app (goodIn_of _ (by decide +kernel)) ggX4_lastOn_X4_isOn
set_option maxRecDepth 20000 in
theorem ggX4_word_X4_isWord : GoodIn wsX4_word wsX4_isWord := goodIn_r _ [7, 8, 9, 10, 6, 11, 49, 50, 51, 52, 53, 54, 55, 56, 57, 58, 59, 60, 61] (by decide +kernel) (by decide +kernel)
set_option maxRecDepth 20000 in
theorem gX4_word_X4_isWord : GoodIn wsX4_word (wsV RX4 103 RX4 yX4_isWord wsX4_isWord) := goodIn_app (goodIn_of _ (by decide +kernel)) ggX4_word_X4_isWord
set_option maxRecDepth 20000 in
theorem ggX4_word_X4_in : GoodIn wsX4_word wsX4_in := goodIn_r _ [11] (by decide +kernel) (by decide +kernel)
set_option maxRecDepth 20000 in
theorem gX4_word_X4_in : GoodIn wsX4_word (va_wsS RX4 33 yX4_in wsX4_in) := goodIn_app (goodIn_of _ (by decide +kernel)) ggX4_word_X4_in
set_option maxRecDepth 20000 in
theorem ggX4_word_X4_of : GoodIn wsX4_word wsX4_of := goodIn_r _ [15, 8, 49, 50, 51, 52, 53, 54, 55, 56, 57, 58, 59, 60, 61] (by decide +kernel) (by decide +kernel)
set_option maxRecDepth 20000 in
theorem gX4_word_X4_of : GoodIn wsX4_word (wsV RX4 37 RX4 yX4_of wsX4_of) := goodIn_app (goodIn_of _ (by decide +kernel)) ggX4_word_X4_of
set_option maxRecDepth 20000 in
theorem ggX4_word_X4_isPut : GoodIn wsX4_word wsX4_isPut := goodIn_r _ [19, 12, 13, 14, 6, 15, 8, 49, 50, 51, 52, 53, 54, 55, 56, 57, 58, 59, 60, 61] (by decide +kernel) (by decide +kernel)
set_option maxRecDepth 20000 in
theorem gX4_word_X4_isPut : GoodIn wsX4_word (wsV RX4 41 RX4 yX4_isPut wsX4_isPut) := goodIn_app (goodIn_of _ (by decide +kernel)) ggX4_word_X4_isPut
set_option maxRecDepth 20000 in
theorem ggX4_word_X4_lastOn : GoodIn wsX4_word wsX4_lastOn := goodIn_r _ [23, 12, 13, 14, 6, 15, 8, 24, 25, 26, 27, 2, 16, 17, 18, 19, 28, 29, 30, 31, 32, 33, 34, 35, 36, 37, 38, 39, 40, 41, 42, 43, 44, 45, 46, 47, 48, 9, 10, 11, 49, 50, 51, 52, 53, 54, 55, 56, 57, 58, 59, 60, 61] (by decide +kernel) (by decide +kernel)
set_option maxRecDepth 20000 in
theorem gX4_word_X4_lastOn : GoodIn wsX4_word (wsV RX4 226 RX4 yX4_lastOn wsX4_lastOn) := goodIn_app (goodIn_of _ (by decide +kernel)) ggX4_word_X4_lastOn
set_option maxRecDepth 20000 in
theorem ggX4_letter_X4_isWord : GoodIn wsX4_letter wsX4_isWord := goodIn_r _ [6, 7, 8, 9, 5, 10, 15, 16, 17, 18, 19, 20, 21, 22, 23, 24, 25, 26, 27] (by decide +kernel) (by decide +kernel)
set_option maxRecDepth 20000 in
theorem gX4_letter_X4_isWord : GoodIn wsX4_letter (wsV RX4 103 RX4 yX4_isWord wsX4_isWord) := goodIn_app (goodIn_of _ (by decide +kernel)) ggX4_letter_X4_isWord
set_option maxRecDepth 20000 in
theorem ggX4_letter_X4_of : GoodIn wsX4_letter wsX4_of := goodIn_r _ [14, 7, 15, 16, 17, 18, 19, 20, 21, 22, 23, 24, 25, 26, 27] (by decide +kernel) (by decide +kernel)
set_option maxRecDepth 20000 in
theorem gX4_letter_X4_of : GoodIn wsX4_letter (wsV RX4 37 RX4 yX4_of wsX4_of) := goodIn_app (goodIn_of _ (by decide +kernel)) ggX4_letter_X4_of
set_option maxRecDepth 20000 in
theorem ggX4_isFrame_X4_in : GoodIn wsX4_isFrame wsX4_in := goodIn_r _ [5] (by decide +kernel) (by decide +kernel)
set_option maxRecDepth 20000 in
theorem gX4_isFrame_X4_in : GoodIn wsX4_isFrame (va_wsS RX4 33 yX4_in wsX4_in) := goodIn_app (goodIn_of _ (by decide +kernel)) ggX4_isFrame_X4_in
set_option maxRecDepth 20000 in
theorem ggX4_where_X4_isWord : GoodIn wsX4_where wsX4_isWord := goodIn_r _ [7, 8, 9, 10, 6, 11, 50, 51, 52, 53, 54, 55, 56, 57, 58, 59, 60, 61, 62] (by decide +kernel) (by decide +kernel)
set_option maxRecDepth 20000 in
theorem gX4_where_X4_isWord : GoodIn wsX4_where (wsV RX4 103 RX4 yX4_isWord wsX4_isWord) := goodIn_app (goodIn_of _ (by decide +kernel)) ggX4_where_X4_isWord
set_option maxRecDepth 20000 in
theorem ggX4_where_X4_isFrame : GoodIn wsX4_where wsX4_isFrame := goodIn_r _ [14, 15, 9, 10, 6, 11] (by decide +kernel) (by decide +kernel)
set_option maxRecDepth 20000 in
theorem gX4_where_X4_isFrame : GoodIn wsX4_where (va_wsS RX4 231 yX4_isFrame wsX4_isFrame) := goodIn_app (goodIn_of _ (by decide +kernel)) ggX4_where_X4_isFrame
set_option maxRecDepth 20000 in
theorem ggX4_where_X4_in : GoodIn wsX4_where wsX4_in := goodIn_r _ [11] (by decide +kernel) (by decide +kernel)
set_option maxRecDepth 20000 in
theorem gX4_where_X4_in : GoodIn wsX4_where (va_wsS RX4 33 yX4_in wsX4_in) := goodIn_app (goodIn_of _ (by decide +kernel)) ggX4_where_X4_in
set_option maxRecDepth 20000 in
theorem ggX4_where_X4_isOn : GoodIn wsX4_where wsX4_isOn := goodIn_r _ [19, 20, 21, 22, 23, 6, 24, 25, 26, 27, 28, 8, 29, 30, 31, 32, 33, 34, 35, 36, 37, 38, 39, 40, 41, 42, 43, 44, 45, 46, 47, 48, 49, 9, 10, 11, 50, 51, 52, 53, 54, 55, 56, 57, 58, 59, 60, 61, 62] (by decide +kernel) (by decide +kernel)
set_option maxRecDepth 20000 in
theorem gX4_where_X4_isOn : GoodIn wsX4_where (wsV RX4 64 RX4 yX4_isOn wsX4_isOn) := goodIn_app (goodIn_of _ (by decide +kernel)) ggX4_where_X4_isOn
set_option maxRecDepth 20000 in
theorem ggX4_where_X4_columnAt : GoodIn wsX4_where wsX4_columnAt := goodIn_r _ [40, 25, 26, 27, 6, 28, 8, 41, 42, 43, 44, 45, 33, 34, 35, 36, 50, 51, 52, 53, 54, 55, 56, 57, 58, 59, 60, 61, 62] (by decide +kernel) (by decide +kernel)
set_option maxRecDepth 20000 in
theorem gX4_where_X4_columnAt : GoodIn wsX4_where (wsV RX4 56 RX4 yX4_columnAt wsX4_columnAt) := goodIn_app (goodIn_of _ (by decide +kernel)) ggX4_where_X4_columnAt
set_option maxRecDepth 20000 in
theorem ggX4_where_X4_rowAt : GoodIn wsX4_where wsX4_rowAt := goodIn_r _ [49, 25, 26, 27, 6, 28, 8, 41, 42, 43, 44, 45, 33, 34, 35, 36, 50, 51, 52, 53, 54, 55, 56, 57, 58, 59, 60, 61, 62] (by decide +kernel) (by decide +kernel)
set_option maxRecDepth 20000 in
theorem gX4_where_X4_rowAt : GoodIn wsX4_where (wsV RX4 59 RX4 yX4_rowAt wsX4_rowAt) := goodIn_app (goodIn_of _ (by decide +kernel)) ggX4_where_X4_rowAt
set_option maxRecDepth 20000 in
theorem ggX4_wordIn_X4_columnAt : GoodIn wsX4_wordIn wsX4_columnAt := goodIn_r _ [6, 7, 8, 9, 5, 10, 1, 11, 12, 13, 14, 15, 16, 17, 18, 19, 40, 41, 42, 43, 44, 45, 46, 47, 48, 49, 50, 51, 52] (by decide +kernel) (by decide +kernel)
set_option maxRecDepth 20000 in
theorem gX4_wordIn_X4_columnAt : GoodIn wsX4_wordIn (wsV RX4 56 RX4 yX4_columnAt wsX4_columnAt) := goodIn_app (goodIn_of _ (by decide +kernel)) ggX4_wordIn_X4_columnAt
set_option maxRecDepth 20000 in
theorem ggX4_wordIn_X4_isOn : GoodIn wsX4_wordIn wsX4_isOn := goodIn_r _ [23, 24, 25, 26, 27, 5, 28, 7, 8, 9, 10, 1, 29, 30, 31, 32, 16, 17, 18, 19, 2, 3, 4, 6, 11, 12, 13, 14, 15, 33, 34, 35, 36, 37, 38, 39, 40, 41, 42, 43, 44, 45, 46, 47, 48, 49, 50, 51, 52] (by decide +kernel) (by decide +kernel)
set_option maxRecDepth 20000 in
theorem gX4_wordIn_X4_isOn : GoodIn wsX4_wordIn (wsV RX4 64 RX4 yX4_isOn wsX4_isOn) := goodIn_app (goodIn_of _ (by decide +kernel)) ggX4_wordIn_X4_isOn
set_option maxRecDepth 20000 in
theorem ggX4_wordIn_X4_rowAt : GoodIn wsX4_wordIn wsX4_rowAt := goodIn_r _ [36, 7, 8, 9, 5, 10, 1, 11, 12, 13, 14, 15, 16, 17, 18, 19, 40, 41, 42, 43, 44, 45, 46, 47, 48, 49, 50, 51, 52] (by decide +kernel) (by decide +kernel)
set_option maxRecDepth 20000 in
theorem gX4_wordIn_X4_rowAt : GoodIn wsX4_wordIn (wsV RX4 59 RX4 yX4_rowAt wsX4_rowAt) := goodIn_app (goodIn_of _ (by decide +kernel)) ggX4_wordIn_X4_rowAt
set_option maxRecDepth 20000 in
theorem ggX4_wordIn_X4_of : GoodIn wsX4_wordIn wsX4_of := goodIn_r _ [10, 1, 40, 41, 42, 43, 44, 45, 46, 47, 48, 49, 50, 51, 52] (by decide +kernel) (by decide +kernel)
set_option maxRecDepth 20000 in
theorem gX4_wordIn_X4_of : GoodIn wsX4_wordIn (wsV RX4 37 RX4 yX4_of wsX4_of) := goodIn_app (goodIn_of _ (by decide +kernel)) ggX4_wordIn_X4_of
set_option maxRecDepth 20000 in
theorem ggX4_wordIn_X4_in : GoodIn wsX4_wordIn wsX4_in := goodIn_r _ [39] (by decide +kernel) (by decide +kernel)
set_option maxRecDepth 20000 in
theorem gX4_wordIn_X4_in : GoodIn wsX4_wordIn (va_wsS RX4 33 yX4_in wsX4_in) := goodIn_app (goodIn_of _ (by decide +kernel)) ggX4_wordIn_X4_in
set_option maxRecDepth 20000 in
theorem ggX4_written_X4_in : GoodIn wsX4_written wsX4_in := goodIn_r _ [7] (by decide +kernel) (by decide +kernel)
set_option maxRecDepth 20000 in
theorem gX4_written_X4_in : GoodIn wsX4_written (va_wsS RX4 33 yX4_in wsX4_in) := goodIn_app (goodIn_of _ (by decide +kernel)) ggX4_written_X4_in
set_option maxRecDepth 20000 in
theorem ggX4_written_X4_isFrame : GoodIn wsX4_written wsX4_isFrame := goodIn_r _ [10, 11, 4, 5, 6, 7] (by decide +kernel) (by decide +kernel)
set_option maxRecDepth 20000 in
theorem gX4_written_X4_isFrame : GoodIn wsX4_written (va_wsS RX4 231 yX4_isFrame wsX4_isFrame) := goodIn_app (goodIn_of _ (by decide +kernel)) ggX4_written_X4_isFrame
set_option maxRecDepth 20000 in
theorem ggX4_written_X4_wordIn : GoodIn wsX4_written wsX4_wordIn := goodIn_r _ [15, 16, 17, 18, 19, 6, 20, 21, 22, 23, 24, 25, 26, 27, 28, 29, 30, 31, 32, 33, 34, 35, 36, 37, 2, 38, 39, 40, 41, 42, 43, 44, 45, 46, 47, 48, 49, 4, 5, 7, 50, 51, 52, 53, 54, 55, 56, 57, 58, 59, 60, 61, 62] (by decide +kernel) (by decide +kernel)
set_option maxRecDepth 20000 in
theorem gX4_written_X4_wordIn : GoodIn wsX4_written (wsV RX4 236 RX4 yX4_wordIn wsX4_wordIn) := goodIn_app (goodIn_of _ (by decide +kernel)) ggX4_written_X4_wordIn
set_option maxRecDepth 20000 in
theorem ggX4_written_X4_columnAt : GoodIn wsX4_written wsX4_columnAt := goodIn_r _ [20, 21, 22, 23, 6, 24, 16, 25, 26, 27, 28, 29, 30, 31, 32, 33, 50, 51, 52, 53, 54, 55, 56, 57, 58, 59, 60, 61, 62] (by decide +kernel) (by decide +kernel)
set_option maxRecDepth 20000 in
theorem gX4_written_X4_columnAt : GoodIn wsX4_written (wsV RX4 56 RX4 yX4_columnAt wsX4_columnAt) := goodIn_app (goodIn_of _ (by decide +kernel)) ggX4_written_X4_columnAt
set_option maxRecDepth 20000 in
theorem ggX4_written_X4_of : GoodIn wsX4_written wsX4_of := goodIn_r _ [24, 16, 50, 51, 52, 53, 54, 55, 56, 57, 58, 59, 60, 61, 62] (by decide +kernel) (by decide +kernel)
set_option maxRecDepth 20000 in
theorem gX4_written_X4_of : GoodIn wsX4_written (wsV RX4 37 RX4 yX4_of wsX4_of) := goodIn_app (goodIn_of _ (by decide +kernel)) ggX4_written_X4_of
set_option maxRecDepth 20000 in
theorem ggX4_onScreen_X4_isFrame : GoodIn wsX4_onScreen wsX4_isFrame := goodIn_r _ [6, 7, 8, 9, 5, 10] (by decide +kernel) (by decide +kernel)
set_option maxRecDepth 20000 in
theorem gX4_onScreen_X4_isFrame : GoodIn wsX4_onScreen (va_wsS RX4 231 yX4_isFrame wsX4_isFrame) := goodIn_app (goodIn_of _ (by decide +kernel)) ggX4_onScreen_X4_isFrame
set_option maxRecDepth 20000 in
theorem ggX4_onScreen_X4_isOn : GoodIn wsX4_onScreen wsX4_isOn := goodIn_r _ [14, 15, 16, 17, 18, 5, 19, 20, 21, 22, 23, 2, 24, 25, 26, 27, 28, 29, 30, 31, 32, 33, 34, 35, 36, 37, 38, 39, 40, 41, 42, 43, 44, 8, 9, 10, 45, 46, 47, 48, 49, 50, 51, 52, 53, 54, 55, 56, 57] (by decide +kernel) (by decide +kernel)
set_option maxRecDepth 20000 in
theorem gX4_onScreen_X4_isOn : GoodIn wsX4_onScreen (wsV RX4 64 RX4 yX4_isOn wsX4_isOn) := goodIn_app (goodIn_of _ (by decide +kernel)) ggX4_onScreen_X4_isOn
set_option maxRecDepth 20000 in
theorem ggX4_meeting_X4_isWord : GoodIn wsX4_meeting wsX4_isWord := goodIn_r _ [6, 7, 8, 9, 5, 10, 59, 60, 61, 62, 63, 64, 65, 66, 67, 68, 69, 70, 71] (by decide +kernel) (by decide +kernel)
set_option maxRecDepth 20000 in
theorem gX4_meeting_X4_isWord : GoodIn wsX4_meeting (wsV RX4 103 RX4 yX4_isWord wsX4_isWord) := goodIn_app (goodIn_of _ (by decide +kernel)) ggX4_meeting_X4_isWord
set_option maxRecDepth 20000 in
theorem ggX4_meeting_X4_meetingOf : GoodIn wsX4_meeting wsX4_meetingOf := goodIn_r _ [14, 15, 16, 17, 5, 18, 7, 19, 20, 21, 22, 23, 24, 25, 26, 27, 28, 29, 30, 31, 32, 33, 34, 35, 36, 37, 38, 39, 40, 41, 42, 43, 44, 45, 46, 47, 48, 49, 50, 51, 8, 9, 10, 52, 53, 54, 55, 56, 57, 58, 59, 60, 61, 62, 63, 64, 65, 66, 67, 68, 69, 70, 71] (by decide +kernel) (by decide +kernel)
set_option maxRecDepth 20000 in
theorem gX4_meeting_X4_meetingOf : GoodIn wsX4_meeting (wsV RX4 78 RX4 yX4_meetingOf wsX4_meetingOf) := goodIn_app (goodIn_of _ (by decide +kernel)) ggX4_meeting_X4_meetingOf
set_option maxRecDepth 20000 in
theorem ggX4_pace_X4_isFrame : GoodIn wsX4_pace wsX4_isFrame := goodIn_r _ [7, 8, 9, 10, 6, 11] (by decide +kernel) (by decide +kernel)
set_option maxRecDepth 20000 in
theorem gX4_pace_X4_isFrame : GoodIn wsX4_pace (va_wsS RX4 231 yX4_isFrame wsX4_isFrame) := goodIn_app (goodIn_of _ (by decide +kernel)) ggX4_pace_X4_isFrame
set_option maxRecDepth 20000 in
theorem ggX4_pace_X4_of : GoodIn wsX4_pace wsX4_of := goodIn_r _ [15, 2, 16, 17, 18, 19, 20, 21, 22, 23, 24, 25, 26, 27, 28] (by decide +kernel) (by decide +kernel)
set_option maxRecDepth 20000 in
theorem gX4_pace_X4_of : GoodIn wsX4_pace (wsV RX4 37 RX4 yX4_of wsX4_of) := goodIn_app (goodIn_of _ (by decide +kernel)) ggX4_pace_X4_of
set_option maxRecDepth 20000 in
theorem ggX4_pace_X4_in : GoodIn wsX4_pace wsX4_in := goodIn_r _ [11] (by decide +kernel) (by decide +kernel)
set_option maxRecDepth 20000 in
theorem gX4_pace_X4_in : GoodIn wsX4_pace (va_wsS RX4 33 yX4_in wsX4_in) := goodIn_app (goodIn_of _ (by decide +kernel)) ggX4_pace_X4_in
set_option maxRecDepth 20000 in
theorem ggX4_earliest_X4_isPlace : GoodIn wsX4_earliest wsX4_isPlace := goodIn_r _ [6, 7, 8, 9, 10, 5, 11, 12, 13, 14, 15, 16, 17, 18, 19, 84, 85, 86, 87, 88, 89, 90, 91, 92, 93, 94, 95, 96] (by decide +kernel) (by decide +kernel)
set_option maxRecDepth 20000 in
theorem gX4_earliest_X4_isPlace : GoodIn wsX4_earliest (wsV RX4 202 RX4 yX4_isPlace wsX4_isPlace) := goodIn_app (goodIn_of _ (by decide +kernel)) ggX4_earliest_X4_isPlace
set_option maxRecDepth 20000 in
theorem ggX4_earliest_X4_hold : GoodIn wsX4_earliest wsX4_hold := goodIn_r _ [23, 24, 12, 84, 85, 86, 87, 88, 89, 90, 91, 92, 93, 94, 95, 96] (by decide +kernel) (by decide +kernel)
set_option maxRecDepth 20000 in
theorem gX4_earliest_X4_hold : GoodIn wsX4_earliest (wsV RX4 193 RX4 yX4_hold wsX4_hold) := goodIn_app (goodIn_of _ (by decide +kernel)) ggX4_earliest_X4_hold
set_option maxRecDepth 20000 in
theorem ggX4_earliest_X4_lay : GoodIn wsX4_earliest wsX4_lay := goodIn_r _ [28, 29, 30, 31, 5, 32, 12, 84, 85, 86, 87, 88, 89, 90, 91, 92, 93, 94, 95, 96] (by decide +kernel) (by decide +kernel)
set_option maxRecDepth 20000 in
theorem gX4_earliest_X4_lay : GoodIn wsX4_earliest (wsV RX4 205 RX4 yX4_lay wsX4_lay) := goodIn_app (goodIn_of _ (by decide +kernel)) ggX4_earliest_X4_lay
set_option maxRecDepth 20000 in
theorem ggX4_earliest_X4_of : GoodIn wsX4_earliest wsX4_of := goodIn_r _ [19, 12, 84, 85, 86, 87, 88, 89, 90, 91, 92, 93, 94, 95, 96] (by decide +kernel) (by decide +kernel)
set_option maxRecDepth 20000 in
theorem gX4_earliest_X4_of : GoodIn wsX4_earliest (wsV RX4 37 RX4 yX4_of wsX4_of) := goodIn_app (goodIn_of _ (by decide +kernel)) ggX4_earliest_X4_of
set_option maxRecDepth 20000 in
theorem ggX4_earliest_X4_set : GoodIn wsX4_earliest wsX4_set := goodIn_r _ [32, 12, 84, 85, 86, 87, 88, 89, 90, 91, 92, 93, 94, 95, 96] (by decide +kernel) (by decide +kernel)
set_option maxRecDepth 20000 in
theorem gX4_earliest_X4_set : GoodIn wsX4_earliest (wsV RX4 81 RX4 yX4_set wsX4_set) := goodIn_app (goodIn_of _ (by decide +kernel)) ggX4_earliest_X4_set
set_option maxRecDepth 20000 in
theorem ggX4_earliest_X4_meetsAny : GoodIn wsX4_earliest wsX4_meetsAny := goodIn_r _ [36, 12, 37, 38, 39, 5, 40, 16, 17, 18, 19, 41, 42, 43, 44, 45, 46, 47, 48, 49, 50, 51, 7, 52, 53, 54, 55, 56, 57, 58, 59, 60, 61, 62, 63, 64, 65, 66, 67, 68, 69, 70, 71, 72, 13, 14, 15, 73, 74, 75, 76, 77, 78, 79, 84, 85, 86, 87, 88, 89, 90, 91, 92, 93, 94, 95, 96] (by decide +kernel) (by decide +kernel)
set_option maxRecDepth 20000 in
theorem gX4_earliest_X4_meetsAny : GoodIn wsX4_earliest (wsV RX4 208 RX4 yX4_meetsAny wsX4_meetsAny) := goodIn_app (goodIn_of _ (by decide +kernel)) ggX4_earliest_X4_meetsAny
set_option maxRecDepth 20000 in
theorem ggX4_earliest_X4_exchange : GoodIn wsX4_earliest wsX4_exchange := goodIn_r _ [83, 12, 24, 84, 85, 86, 87, 88, 89, 90, 91, 92, 93, 94, 95, 96] (by decide +kernel) (by decide +kernel)
set_option maxRecDepth 20000 in
theorem gX4_earliest_X4_exchange : GoodIn wsX4_earliest (wsV RX4 199 RX4 yX4_exchange wsX4_exchange) := goodIn_app (goodIn_of _ (by decide +kernel)) ggX4_earliest_X4_exchange
set_option maxRecDepth 20000 in
theorem ggX4_filled_X4_isFrame : GoodIn wsX4_filled wsX4_isFrame := goodIn_r _ [5, 6, 7, 8, 4, 9] (by decide +kernel) (by decide +kernel)
set_option maxRecDepth 20000 in
theorem gX4_filled_X4_isFrame : GoodIn wsX4_filled (va_wsS RX4 231 yX4_isFrame wsX4_isFrame) := goodIn_app (goodIn_of _ (by decide +kernel)) ggX4_filled_X4_isFrame
set_option maxRecDepth 20000 in
theorem ggX4_filled_X4_wordIn : GoodIn wsX4_filled wsX4_wordIn := goodIn_r _ [13, 14, 15, 16, 17, 4, 18, 19, 20, 21, 22, 23, 24, 25, 26, 27, 28, 29, 30, 31, 32, 33, 34, 35, 36, 37, 38, 39, 40, 41, 42, 43, 44, 45, 46, 47, 48, 7, 8, 9, 49, 50, 51, 52, 53, 54, 55, 56, 57, 58, 59, 60, 61] (by decide +kernel) (by decide +kernel)
set_option maxRecDepth 20000 in
theorem gX4_filled_X4_wordIn : GoodIn wsX4_filled (wsV RX4 236 RX4 yX4_wordIn wsX4_wordIn) := goodIn_app (goodIn_of _ (by decide +kernel)) ggX4_filled_X4_wordIn
