/-! LINKS: rooms, fields, calls, constants (written by wip/whole/gen/links.py) -/
def rmX0_init : Room := { frames := 2, cells := 0, slots := 0, locals := 40 }
def rmX0_copyFrom : Room := { frames := 2, cells := 0, slots := 0, locals := 47 }
def rmX0_hasWord : Room := { frames := 0, cells := 0, slots := 0, locals := 0 }
def rmX0_hasRoomForWord : Room := { frames := 0, cells := 0, slots := 0, locals := 0 }
def rmX0_hasRoomForShot : Room := { frames := 0, cells := 0, slots := 0, locals := 0 }
def rmX0_appendWord : Room := { frames := 0, cells := 0, slots := 0, locals := 0 }
def rmX0_deleteWord : Room := { frames := 0, cells := 0, slots := 0, locals := 0 }
def rmX0_hasShotIn : Room := { frames := 0, cells := 0, slots := 0, locals := 0 }
def rmX0_insertShot : Room := { frames := 0, cells := 0, slots := 0, locals := 0 }
def rmX0_deleteShot : Room := { frames := 0, cells := 0, slots := 0, locals := 0 }
def rmX0_countPut : Room := { frames := 0, cells := 0, slots := 0, locals := 0 }
def rmX0_countMeetingPairs : Room := { frames := 4, cells := 0, slots := 0, locals := 97 }
def rmX0_cellsMoved : Room := { frames := 0, cells := 0, slots := 0, locals := 0 }
def rmX0_rowOf : Room := { frames := 1, cells := 0, slots := 0, locals := 22 }
def rmX0_columnOf : Room := { frames := 1, cells := 0, slots := 0, locals := 22 }
def rmX0_goneFrom : Room := { frames := 2, cells := 0, slots := 0, locals := 45 }
def rmX0_stepsToLeave : Room := { frames := 1, cells := 0, slots := 0, locals := 22 }
def rmX0_isVisible : Room := { frames := 3, cells := 0, slots := 0, locals := 68 }
def rmX0_visibleSet : Room := { frames := 4, cells := 0, slots := 0, locals := 90 }
def rmX0_cellsInRow : Room := { frames := 4, cells := 0, slots := 0, locals := 90 }
def rmX0_firstMeeting : Room := { frames := 3, cells := 0, slots := 0, locals := 71 }
def rmX0_shareCell : Room := { frames := 2, cells := 0, slots := 0, locals := 44 }
def rmX0_isFree : Room := { frames := 4, cells := 0, slots := 0, locals := 97 }
def rmX0_takeAllWords : Room := { frames := 0, cells := 0, slots := 0, locals := 0 }
def rmX0_sortForPutting : Room := { frames := 1, cells := 0, slots := 0, locals := 21 }
def rmX0_comesBefore : Room := { frames := 0, cells := 0, slots := 0, locals := 0 }
def rmX0_putAtFirstPlace : Room := { frames := 5, cells := 0, slots := 0, locals := 122 }
def rmX1_init : Room := { frames := 1, cells := 0, slots := 0, locals := 20 }
def rmX1_readInto : Room := { frames := 10, cells := 0, slots := 0, locals := 217 }
def rmX1_readItem : Room := { frames := 9, cells := 0, slots := 0, locals := 196 }
def rmX1_readWord : Room := { frames := 8, cells := 0, slots := 0, locals := 168 }
def rmX1_readShot : Room := { frames := 2, cells := 0, slots := 0, locals := 42 }
def rmX1_step : Room := { frames := 1, cells := 0, slots := 0, locals := 22 }
def rmX1_kindAt : Room := { frames := 0, cells := 0, slots := 0, locals := 0 }
def rmX1_isName : Room := { frames := 6, cells := 0, slots := 0, locals := 126 }
def rmX1_wayOf : Room := { frames := 7, cells := 0, slots := 0, locals := 148 }
def rmX1_numberOf : Room := { frames := 0, cells := 0, slots := 0, locals := 0 }
def rmX2_init : Room := { frames := 1, cells := 0, slots := 0, locals := 20 }
def rmX2_copyFrom : Room := { frames := 1, cells := 0, slots := 0, locals := 26 }
def rmX2_property : Room := { frames := 0, cells := 0, slots := 0, locals := 0 }
def rmX2_setProperty : Room := { frames := 0, cells := 0, slots := 0, locals := 0 }
def rmX2_putAt : Room := { frames := 0, cells := 0, slots := 0, locals := 0 }
def rmX2_leavesIn : Room := { frames := 0, cells := 0, slots := 0, locals := 0 }
def rmX2_stepsIn : Room := { frames := 0, cells := 0, slots := 0, locals := 0 }
def rmX2_keepsLane : Room := { frames := 0, cells := 0, slots := 0, locals := 0 }
def rmX2_lastColumn : Room := { frames := 0, cells := 0, slots := 0, locals := 0 }
def rmX2_cellsToLeave : Room := { frames := 0, cells := 0, slots := 0, locals := 0 }
def rmX3_init : Room := { frames := 3, cells := 0, slots := 0, locals := 61 }
def rmX3_addWord : Room := { frames := 4, cells := 0, slots := 0, locals := 89 }
def rmX3_removeWord : Room := { frames := 4, cells := 0, slots := 0, locals := 89 }
def rmX3_setWord : Room := { frames := 4, cells := 0, slots := 0, locals := 89 }
def rmX3_addShot : Room := { frames := 4, cells := 0, slots := 0, locals := 89 }
def rmX3_removeShot : Room := { frames := 4, cells := 0, slots := 0, locals := 89 }
def rmX3_setSpeed : Room := { frames := 4, cells := 0, slots := 0, locals := 89 }
def rmX3_append : Room := { frames := 1, cells := 0, slots := 0, locals := 22 }
def rmX3_load : Room := { frames := 11, cells := 0, slots := 0, locals := 239 }
def rmX3_put : Room := { frames := 5, cells := 0, slots := 0, locals := 122 }
def rmX3_take : Room := { frames := 4, cells := 0, slots := 0, locals := 89 }
def rmX3_putAll : Room := { frames := 6, cells := 0, slots := 0, locals := 149 }
def rmX3_undo : Room := { frames := 3, cells := 0, slots := 0, locals := 69 }
def rmX3_count : Room := { frames := 5, cells := 0, slots := 0, locals := 120 }
def rmX3_word : Room := { frames := 3, cells := 0, slots := 0, locals := 68 }
def rmX3_letter : Room := { frames := 1, cells := 0, slots := 0, locals := 21 }
def rmX3_shot : Room := { frames := 0, cells := 0, slots := 0, locals := 0 }
def rmX3_where : Room := { frames := 4, cells := 0, slots := 0, locals := 90 }
def rmX3_onScreen : Room := { frames := 5, cells := 0, slots := 0, locals := 113 }
def rmX3_meeting : Room := { frames := 4, cells := 0, slots := 0, locals := 97 }
def rmX3_earliest : Room := { frames := 5, cells := 0, slots := 0, locals := 122 }
def rmX3_filled : Room := { frames := 5, cells := 0, slots := 0, locals := 119 }
def rmX3_record : Room := { frames := 3, cells := 0, slots := 0, locals := 69 }
def rmX3_dropOldestState : Room := { frames := 0, cells := 0, slots := 0, locals := 0 }
def rmX3_isPossiblePlace : Room := { frames := 1, cells := 0, slots := 0, locals := 22 }
def rmX3_isBetween : Room := { frames := 0, cells := 0, slots := 0, locals := 0 }
def rmX3_isAskedFrame : Room := { frames := 1, cells := 0, slots := 0, locals := 22 }
def rmX3_isAllowed : Room := { frames := 1, cells := 0, slots := 0, locals := 22 }
def rmJ13_bitCount_95d88 : Room := { frames := 0, cells := 0, slots := 0, locals := 0 }
def rmJ9_max_7cf53 : Room := { frames := 0, cells := 0, slots := 0, locals := 0 }
def rmJ9_min_7cf53 : Room := { frames := 0, cells := 0, slots := 0, locals := 0 }
def rmJ0_length_8abf5 : Room := { frames := 1, cells := 0, slots := 0, locals := 20 }
def rmJ0_charAt_5068e : Room := { frames := 5, cells := 0, slots := 0, locals := 105 }
def rmJ0_coder_7d493 : Room := { frames := 0, cells := 0, slots := 0, locals := 0 }
def rmJ0_isLatin1_aae02 : Room := { frames := 0, cells := 0, slots := 0, locals := 0 }
def rmJ0_checkIndex_df160 : Room := { frames := 2, cells := 0, slots := 0, locals := 42 }
def rmJ1_charAt_3b067 : Room := { frames := 3, cells := 0, slots := 0, locals := 63 }
def rmJ2_getChar_3b067 : Room := { frames := 1, cells := 0, slots := 0, locals := 20 }
def rmJ2_length_9d52b : Room := { frames := 0, cells := 0, slots := 0, locals := 0 }
def rmJ2_charAt_3b067 : Room := { frames := 4, cells := 0, slots := 0, locals := 84 }
def rmJ2_checkIndex_2214a : Room := { frames := 3, cells := 0, slots := 0, locals := 63 }
def rmJ3_checkIndex_8e157 : Room := { frames := 1, cells := 0, slots := 0, locals := 20 }
def rmL_cell : Room := { frames := 0, cells := 0, slots := 0, locals := 0 }
def rmL_low : Room := { frames := 0, cells := 0, slots := 0, locals := 0 }
def rmL_digest : Room := { frames := 6, cells := 0, slots := 0, locals := 141 }
def rmL_act : Room := { frames := 7, cells := 0, slots := 0, locals := 170 }
def rmL_isRight : Room := { frames := 6, cells := 0, slots := 0, locals := 142 }
theorem kp0_1 : ∀ q : vw_C, vwCl[0]? = some q → (q.2.1 1).2.2.2 = false ∧ parseFieldDescriptor (q.2.1 1).2.2.1 = some .int := by
  intro q h
  cases h
  exact ⟨rfl, by decide +kernel⟩
theorem kp0_3 : ∀ q : vw_C, vwCl[0]? = some q → (q.2.1 3).2.2.2 = false ∧ parseFieldDescriptor (q.2.1 3).2.2.1 = some .int := by
  intro q h
  cases h
  exact ⟨rfl, by decide +kernel⟩
theorem kp0_4 : ∀ q : vw_C, vwCl[0]? = some q → (q.2.1 4).2.2.2 = false ∧ parseFieldDescriptor (q.2.1 4).2.2.1 = some .int := by
  intro q h
  cases h
  exact ⟨rfl, by decide +kernel⟩
theorem kp1_1 : ∀ q : vw_C, vwCl[1]? = some q → (q.2.1 1).2.2.2 = false ∧ parseFieldDescriptor (q.2.1 1).2.2.1 = some .int := by
  intro q h
  cases h
  exact ⟨rfl, by decide +kernel⟩
theorem kp1_2 : ∀ q : vw_C, vwCl[1]? = some q → (q.2.1 2).2.2.2 = false ∧ parseFieldDescriptor (q.2.1 2).2.2.1 = some .int := by
  intro q h
  cases h
  exact ⟨rfl, by decide +kernel⟩
theorem kp1_3 : ∀ q : vw_C, vwCl[1]? = some q → (q.2.1 3).2.2.2 = false ∧ parseFieldDescriptor (q.2.1 3).2.2.1 = some .int := by
  intro q h
  cases h
  exact ⟨rfl, by decide +kernel⟩
theorem kp1_4 : ∀ q : vw_C, vwCl[1]? = some q → (q.2.1 4).2.2.2 = false ∧ parseFieldDescriptor (q.2.1 4).2.2.1 = some .int := by
  intro q h
  cases h
  exact ⟨rfl, by decide +kernel⟩
theorem kp2_1 : ∀ q : vw_C, vwCl[2]? = some q → (q.2.1 1).2.2.2 = false ∧ parseFieldDescriptor (q.2.1 1).2.2.1 = some .int := by
  intro q h
  cases h
  exact ⟨rfl, by decide +kernel⟩
theorem kp2_2 : ∀ q : vw_C, vwCl[2]? = some q → (q.2.1 2).2.2.2 = false ∧ parseFieldDescriptor (q.2.1 2).2.2.1 = some .int := by
  intro q h
  cases h
  exact ⟨rfl, by decide +kernel⟩
theorem kp2_3 : ∀ q : vw_C, vwCl[2]? = some q → (q.2.1 3).2.2.2 = false ∧ parseFieldDescriptor (q.2.1 3).2.2.1 = some .int := by
  intro q h
  cases h
  exact ⟨rfl, by decide +kernel⟩
theorem kp2_4 : ∀ q : vw_C, vwCl[2]? = some q → (q.2.1 4).2.2.2 = false ∧ parseFieldDescriptor (q.2.1 4).2.2.1 = some .int := by
  intro q h
  cases h
  exact ⟨rfl, by decide +kernel⟩
theorem kp2_5 : ∀ q : vw_C, vwCl[2]? = some q → (q.2.1 5).2.2.2 = false ∧ parseFieldDescriptor (q.2.1 5).2.2.1 = some .int := by
  intro q h
  cases h
  exact ⟨rfl, by decide +kernel⟩
theorem kp2_6 : ∀ q : vw_C, vwCl[2]? = some q → (q.2.1 6).2.2.2 = false ∧ parseFieldDescriptor (q.2.1 6).2.2.1 = some .boolean := by
  intro q h
  cases h
  exact ⟨rfl, by decide +kernel⟩
theorem kp2_7 : ∀ q : vw_C, vwCl[2]? = some q → (q.2.1 7).2.2.2 = false ∧ parseFieldDescriptor (q.2.1 7).2.2.1 = some .int := by
  intro q h
  cases h
  exact ⟨rfl, by decide +kernel⟩
theorem kp2_8 : ∀ q : vw_C, vwCl[2]? = some q → (q.2.1 8).2.2.2 = false ∧ parseFieldDescriptor (q.2.1 8).2.2.1 = some .int := by
  intro q h
  cases h
  exact ⟨rfl, by decide +kernel⟩
theorem kp3_3 : ∀ q : vw_C, vwCl[3]? = some q → (q.2.1 3).2.2.2 = false ∧ parseFieldDescriptor (q.2.1 3).2.2.1 = some .int := by
  intro q h
  cases h
  exact ⟨rfl, by decide +kernel⟩
theorem kfX0_init_11 : fFl wsX0_init RX0 11 0 0 := ⟨(RX0, TX0, 7), rfl, by decide, by decide +kernel, by decide +kernel, rfl, fun _ => ⟨tyX0, tyX0_ok, nmX0⟩⟩
theorem kfX0_init_17 : fFl wsX0_init RX0 17 0 2 := ⟨(RX0, TX0, 7), rfl, by decide, by decide +kernel, by decide +kernel, rfl, fun _ => ⟨tyX0, tyX0_ok, nmX0⟩⟩
theorem kfX0_init_21 : fFl wsX0_init RX0 21 0 4 := ⟨(RX0, TX0, 7), rfl, by decide, by decide +kernel, by decide +kernel, rfl, fun _ => ⟨tyX0, tyX0_ok, nmX0⟩⟩
theorem kfX0_init_26 : fFl wsX0_init RX0 26 0 5 := ⟨(RX0, TX0, 7), rfl, by decide, by decide +kernel, by decide +kernel, rfl, fun _ => ⟨tyX0, tyX0_ok, nmX0⟩⟩
theorem kfX0_init_30 : fFl wsX0_init RX0 30 0 6 := ⟨(RX0, TX0, 7), rfl, by decide, by decide +kernel, by decide +kernel, rfl, fun _ => ⟨tyX0, tyX0_ok, nmX0⟩⟩
theorem kfX0_copyFrom_33 : fFl wsX0_copyFrom RX0 33 0 1 := ⟨(RX0, TX0, 7), rfl, by decide, by decide +kernel, by decide +kernel, rfl, fun _ => ⟨tyX0, tyX0_ok, nmX0⟩⟩
theorem kfX0_copyFrom_11 : fFl wsX0_copyFrom RX0 11 0 0 := ⟨(RX0, TX0, 7), rfl, by decide, by decide +kernel, by decide +kernel, rfl, fun _ => ⟨tyX0, tyX0_ok, nmX0⟩⟩
theorem kcX0_copyFrom_36 : fCv wsX0_copyFrom RX0 36 2 yX2_copyFrom wsX2_copyFrom rmX0_copyFrom rmX2_copyFrom 1 := ⟨(RX2, TX2, 9), cX2_copyFrom, 2, none, _, rfl, gX0_copyFrom_X2_copyFrom, rfl, rfl, rfl, ⟨rfl, by decide, by decide, by decide +kernel⟩, by decide, by decide⟩
theorem kfX0_copyFrom_17 : fFl wsX0_copyFrom RX0 17 0 2 := ⟨(RX0, TX0, 7), rfl, by decide, by decide +kernel, by decide +kernel, rfl, fun _ => ⟨tyX0, tyX0_ok, nmX0⟩⟩
theorem kcX0_copyFrom_40 : Cond.methodLink RX0 40 arraycopyName ∈ wsX0_copyFrom ∧ Cond.native arraycopyName ∈ wsX0_copyFrom ∧ Cond.static arraycopyName ∈ wsX0_copyFrom ∧ Cond.initialized "java/lang/System" ∈ wsX0_copyFrom := ⟨by decide +kernel, by decide +kernel, by decide +kernel, by decide +kernel⟩
theorem kfX0_copyFrom_46 : fFl wsX0_copyFrom RX0 46 0 3 := ⟨(RX0, TX0, 7), rfl, by decide, by decide +kernel, by decide +kernel, rfl, fun _ => ⟨tyX0, tyX0_ok, nmX0⟩⟩
theorem kfX0_copyFrom_21 : fFl wsX0_copyFrom RX0 21 0 4 := ⟨(RX0, TX0, 7), rfl, by decide, by decide +kernel, by decide +kernel, rfl, fun _ => ⟨tyX0, tyX0_ok, nmX0⟩⟩
theorem kfX0_hasWord_33 : fFl wsX0_hasWord RX0 33 0 1 := ⟨(RX0, TX0, 7), rfl, by decide, by decide +kernel, by decide +kernel, rfl, fun _ => ⟨tyX0, tyX0_ok, nmX0⟩⟩
theorem kfX0_hasRoomForWord_33 : fFl wsX0_hasRoomForWord RX0 33 0 1 := ⟨(RX0, TX0, 7), rfl, by decide, by decide +kernel, by decide +kernel, rfl, fun _ => ⟨tyX0, tyX0_ok, nmX0⟩⟩
theorem kfX0_hasRoomForShot_46 : fFl wsX0_hasRoomForShot RX0 46 0 3 := ⟨(RX0, TX0, 7), rfl, by decide, by decide +kernel, by decide +kernel, rfl, fun _ => ⟨tyX0, tyX0_ok, nmX0⟩⟩
theorem kfX0_appendWord_11 : fFl wsX0_appendWord RX0 11 0 0 := ⟨(RX0, TX0, 7), rfl, by decide, by decide +kernel, by decide +kernel, rfl, fun _ => ⟨tyX0, tyX0_ok, nmX0⟩⟩
theorem kfX0_appendWord_33 : fFl wsX0_appendWord RX0 33 0 1 := ⟨(RX0, TX0, 7), rfl, by decide, by decide +kernel, by decide +kernel, rfl, fun _ => ⟨tyX0, tyX0_ok, nmX0⟩⟩
theorem kfX0_appendWord_49 : fFl wsX0_appendWord RX0 49 2 0 := ⟨(RX2, TX2, 9), rfl, by decide, by decide +kernel, by decide +kernel, rfl, fun _ => ⟨tyX2, tyX2_ok, nmX2⟩⟩
theorem kfX0_appendWord_52 : fFl wsX0_appendWord RX0 52 2 1 := ⟨(RX2, TX2, 9), rfl, by decide, by decide +kernel, by decide +kernel, rfl, fun _ => ⟨tyX2, tyX2_ok, nmX2⟩⟩
theorem kfX0_appendWord_55 : fFl wsX0_appendWord RX0 55 2 2 := ⟨(RX2, TX2, 9), rfl, by decide, by decide +kernel, by decide +kernel, rfl, fun _ => ⟨tyX2, tyX2_ok, nmX2⟩⟩
theorem kfX0_appendWord_58 : fFl wsX0_appendWord RX0 58 2 3 := ⟨(RX2, TX2, 9), rfl, by decide, by decide +kernel, by decide +kernel, rfl, fun _ => ⟨tyX2, tyX2_ok, nmX2⟩⟩
theorem kfX0_appendWord_61 : fFl wsX0_appendWord RX0 61 2 4 := ⟨(RX2, TX2, 9), rfl, by decide, by decide +kernel, by decide +kernel, rfl, fun _ => ⟨tyX2, tyX2_ok, nmX2⟩⟩
theorem kfX0_appendWord_64 : fFl wsX0_appendWord RX0 64 2 5 := ⟨(RX2, TX2, 9), rfl, by decide, by decide +kernel, by decide +kernel, rfl, fun _ => ⟨tyX2, tyX2_ok, nmX2⟩⟩
theorem kfX0_appendWord_67 : fFl wsX0_appendWord RX0 67 2 6 := ⟨(RX2, TX2, 9), rfl, by decide, by decide +kernel, by decide +kernel, rfl, fun _ => ⟨tyX2, tyX2_ok, nmX2⟩⟩
theorem kfX0_deleteWord_11 : fFl wsX0_deleteWord RX0 11 0 0 := ⟨(RX0, TX0, 7), rfl, by decide, by decide +kernel, by decide +kernel, rfl, fun _ => ⟨tyX0, tyX0_ok, nmX0⟩⟩
theorem kfX0_deleteWord_33 : fFl wsX0_deleteWord RX0 33 0 1 := ⟨(RX0, TX0, 7), rfl, by decide, by decide +kernel, by decide +kernel, rfl, fun _ => ⟨tyX0, tyX0_ok, nmX0⟩⟩
theorem kfX0_hasShotIn_46 : fFl wsX0_hasShotIn RX0 46 0 3 := ⟨(RX0, TX0, 7), rfl, by decide, by decide +kernel, by decide +kernel, rfl, fun _ => ⟨tyX0, tyX0_ok, nmX0⟩⟩
theorem kfX0_hasShotIn_17 : fFl wsX0_hasShotIn RX0 17 0 2 := ⟨(RX0, TX0, 7), rfl, by decide, by decide +kernel, by decide +kernel, rfl, fun _ => ⟨tyX0, tyX0_ok, nmX0⟩⟩
theorem kfX0_insertShot_46 : fFl wsX0_insertShot RX0 46 0 3 := ⟨(RX0, TX0, 7), rfl, by decide, by decide +kernel, by decide +kernel, rfl, fun _ => ⟨tyX0, tyX0_ok, nmX0⟩⟩
theorem kfX0_insertShot_17 : fFl wsX0_insertShot RX0 17 0 2 := ⟨(RX0, TX0, 7), rfl, by decide, by decide +kernel, by decide +kernel, rfl, fun _ => ⟨tyX0, tyX0_ok, nmX0⟩⟩
theorem kfX0_deleteShot_46 : fFl wsX0_deleteShot RX0 46 0 3 := ⟨(RX0, TX0, 7), rfl, by decide, by decide +kernel, by decide +kernel, rfl, fun _ => ⟨tyX0, tyX0_ok, nmX0⟩⟩
theorem kfX0_deleteShot_17 : fFl wsX0_deleteShot RX0 17 0 2 := ⟨(RX0, TX0, 7), rfl, by decide, by decide +kernel, by decide +kernel, rfl, fun _ => ⟨tyX0, tyX0_ok, nmX0⟩⟩
theorem kfX0_countPut_33 : fFl wsX0_countPut RX0 33 0 1 := ⟨(RX0, TX0, 7), rfl, by decide, by decide +kernel, by decide +kernel, rfl, fun _ => ⟨tyX0, tyX0_ok, nmX0⟩⟩
theorem kfX0_countPut_11 : fFl wsX0_countPut RX0 11 0 0 := ⟨(RX0, TX0, 7), rfl, by decide, by decide +kernel, by decide +kernel, rfl, fun _ => ⟨tyX0, tyX0_ok, nmX0⟩⟩
theorem kfX0_countPut_67 : fFl wsX0_countPut RX0 67 2 6 := ⟨(RX2, TX2, 9), rfl, by decide, by decide +kernel, by decide +kernel, rfl, fun _ => ⟨tyX2, tyX2_ok, nmX2⟩⟩
theorem kfX0_countMeetingPairs_33 : fFl wsX0_countMeetingPairs RX0 33 0 1 := ⟨(RX0, TX0, 7), rfl, by decide, by decide +kernel, by decide +kernel, rfl, fun _ => ⟨tyX0, tyX0_ok, nmX0⟩⟩
theorem kfX0_countMeetingPairs_11 : fFl wsX0_countMeetingPairs RX0 11 0 0 := ⟨(RX0, TX0, 7), rfl, by decide, by decide +kernel, by decide +kernel, rfl, fun _ => ⟨tyX0, tyX0_ok, nmX0⟩⟩
theorem kcX0_countMeetingPairs_71 : fCv wsX0_countMeetingPairs RX0 71 0 yX0_firstMeeting wsX0_firstMeeting rmX0_countMeetingPairs rmX0_firstMeeting 2 := ⟨(RX0, TX0, 7), cX0_firstMeeting, 7, (some .int), _, rfl, gX0_countMeetingPairs_X0_firstMeeting, rfl, rfl, rfl, ⟨rfl, by decide, by decide, by decide +kernel⟩, by decide, by decide⟩
theorem kfX0_cellsMoved_21 : fFl wsX0_cellsMoved RX0 21 0 4 := ⟨(RX0, TX0, 7), rfl, by decide, by decide +kernel, by decide +kernel, rfl, fun _ => ⟨tyX0, tyX0_ok, nmX0⟩⟩
theorem klX0_cellsMoved_75 : Cond.constantFloat RX0 75 1120403456 ∈ wsX0_cellsMoved := by decide +kernel
theorem kfX0_rowOf_64 : fFl wsX0_rowOf RX0 64 2 5 := ⟨(RX2, TX2, 9), rfl, by decide, by decide +kernel, by decide +kernel, rfl, fun _ => ⟨tyX2, tyX2_ok, nmX2⟩⟩
theorem kfX0_rowOf_76 : fFl wsX0_rowOf RX0 76 2 7 := ⟨(RX2, TX2, 9), rfl, by decide, by decide +kernel, by decide +kernel, rfl, fun _ => ⟨tyX2, tyX2_ok, nmX2⟩⟩
theorem kcX0_rowOf_79 : fCv wsX0_rowOf RX0 79 2 yX2_stepsIn wsX2_stepsIn rmX0_rowOf rmX2_stepsIn 1 := ⟨(RX2, TX2, 9), cX2_stepsIn, 2, (some .int), _, rfl, gX0_rowOf_X2_stepsIn, rfl, rfl, rfl, ⟨rfl, by decide, by decide, by decide +kernel⟩, by decide, by decide⟩
theorem kcX0_rowOf_83 : fCv wsX0_rowOf RX0 83 0 yX0_cellsMoved wsX0_cellsMoved rmX0_rowOf rmX0_cellsMoved 1 := ⟨(RX0, TX0, 7), cX0_cellsMoved, 3, (some .int), _, rfl, gX0_rowOf_X0_cellsMoved, rfl, rfl, rfl, ⟨rfl, by decide, by decide, by decide +kernel⟩, by decide, by decide⟩
theorem kfX0_columnOf_64 : fFl wsX0_columnOf RX0 64 2 5 := ⟨(RX2, TX2, 9), rfl, by decide, by decide +kernel, by decide +kernel, rfl, fun _ => ⟨tyX2, tyX2_ok, nmX2⟩⟩
theorem kfX0_columnOf_86 : fFl wsX0_columnOf RX0 86 2 8 := ⟨(RX2, TX2, 9), rfl, by decide, by decide +kernel, by decide +kernel, rfl, fun _ => ⟨tyX2, tyX2_ok, nmX2⟩⟩
theorem kcX0_columnOf_79 : fCv wsX0_columnOf RX0 79 2 yX2_stepsIn wsX2_stepsIn rmX0_columnOf rmX2_stepsIn 1 := ⟨(RX2, TX2, 9), cX2_stepsIn, 2, (some .int), _, rfl, gX0_columnOf_X2_stepsIn, rfl, rfl, rfl, ⟨rfl, by decide, by decide, by decide +kernel⟩, by decide, by decide⟩
theorem kcX0_columnOf_83 : fCv wsX0_columnOf RX0 83 0 yX0_cellsMoved wsX0_cellsMoved rmX0_columnOf rmX0_cellsMoved 1 := ⟨(RX0, TX0, 7), cX0_cellsMoved, 3, (some .int), _, rfl, gX0_columnOf_X0_cellsMoved, rfl, rfl, rfl, ⟨rfl, by decide, by decide, by decide +kernel⟩, by decide, by decide⟩
theorem kcX0_goneFrom_89 : fCv wsX0_goneFrom RX0 89 2 yX2_leavesIn wsX2_leavesIn rmX0_goneFrom rmX2_leavesIn 0 := ⟨(RX2, TX2, 9), cX2_leavesIn, 1, (some .int), _, rfl, gX0_goneFrom_X2_leavesIn, rfl, rfl, rfl, ⟨rfl, by decide, by decide, by decide +kernel⟩, by decide, by decide⟩
theorem kfX0_goneFrom_64 : fFl wsX0_goneFrom RX0 64 2 5 := ⟨(RX2, TX2, 9), rfl, by decide, by decide +kernel, by decide +kernel, rfl, fun _ => ⟨tyX2, tyX2_ok, nmX2⟩⟩
theorem kcX0_goneFrom_93 : fCv wsX0_goneFrom RX0 93 0 yX0_stepsToLeave wsX0_stepsToLeave rmX0_goneFrom rmX0_stepsToLeave 1 := ⟨(RX0, TX0, 7), cX0_stepsToLeave, 4, (some .int), _, rfl, gX0_goneFrom_X0_stepsToLeave, rfl, rfl, rfl, ⟨rfl, by decide, by decide, by decide +kernel⟩, by decide, by decide⟩
theorem kfX0_goneFrom_46 : fFl wsX0_goneFrom RX0 46 0 3 := ⟨(RX0, TX0, 7), rfl, by decide, by decide +kernel, by decide +kernel, rfl, fun _ => ⟨tyX0, tyX0_ok, nmX0⟩⟩
theorem kfX0_goneFrom_17 : fFl wsX0_goneFrom RX0 17 0 2 := ⟨(RX0, TX0, 7), rfl, by decide, by decide +kernel, by decide +kernel, rfl, fun _ => ⟨tyX0, tyX0_ok, nmX0⟩⟩
theorem kfX0_goneFrom_55 : fFl wsX0_goneFrom RX0 55 2 2 := ⟨(RX2, TX2, 9), rfl, by decide, by decide +kernel, by decide +kernel, rfl, fun _ => ⟨tyX2, tyX2_ok, nmX2⟩⟩
theorem kcX0_goneFrom_97 : Cond.methodLink RX0 97 Lib.Math.min.name ∈ wsX0_goneFrom ∧ Cond.static Lib.Math.min.name ∈ wsX0_goneFrom ∧ Cond.initialized "java/lang/Math" ∈ wsX0_goneFrom ∧ Cond.code Lib.Math.min.name Lib.Math.min.code 2 (some .int) ∈ wsX0_goneFrom := ⟨by decide +kernel, by decide +kernel, by decide +kernel, by decide +kernel⟩
theorem kcX0_stepsToLeave_103 : fCv wsX0_stepsToLeave RX0 103 2 yX2_cellsToLeave wsX2_cellsToLeave rmX0_stepsToLeave rmX2_cellsToLeave 0 := ⟨(RX2, TX2, 9), cX2_cellsToLeave, 1, (some .int), _, rfl, gX0_stepsToLeave_X2_cellsToLeave, rfl, rfl, rfl, ⟨rfl, by decide, by decide, by decide +kernel⟩, by decide, by decide⟩
theorem kcX0_stepsToLeave_83 : fCv wsX0_stepsToLeave RX0 83 0 yX0_cellsMoved wsX0_cellsMoved rmX0_stepsToLeave rmX0_cellsMoved 1 := ⟨(RX0, TX0, 7), cX0_cellsMoved, 3, (some .int), _, rfl, gX0_stepsToLeave_X0_cellsMoved, rfl, rfl, rfl, ⟨rfl, by decide, by decide, by decide +kernel⟩, by decide, by decide⟩
theorem kfX0_isVisible_67 : fFl wsX0_isVisible RX0 67 2 6 := ⟨(RX2, TX2, 9), rfl, by decide, by decide +kernel, by decide +kernel, rfl, fun _ => ⟨tyX2, tyX2_ok, nmX2⟩⟩
theorem kfX0_isVisible_55 : fFl wsX0_isVisible RX0 55 2 2 := ⟨(RX2, TX2, 9), rfl, by decide, by decide +kernel, by decide +kernel, rfl, fun _ => ⟨tyX2, tyX2_ok, nmX2⟩⟩
theorem kcX0_isVisible_106 : fCv wsX0_isVisible RX0 106 0 yX0_goneFrom wsX0_goneFrom rmX0_isVisible rmX0_goneFrom 1 := ⟨(RX0, TX0, 7), cX0_goneFrom, 4, (some .int), _, rfl, gX0_isVisible_X0_goneFrom, rfl, rfl, rfl, ⟨rfl, by decide, by decide, by decide +kernel⟩, by decide, by decide⟩
theorem kfX0_visibleSet_33 : fFl wsX0_visibleSet RX0 33 0 1 := ⟨(RX0, TX0, 7), rfl, by decide, by decide +kernel, by decide +kernel, rfl, fun _ => ⟨tyX0, tyX0_ok, nmX0⟩⟩
theorem kfX0_visibleSet_11 : fFl wsX0_visibleSet RX0 11 0 0 := ⟨(RX0, TX0, 7), rfl, by decide, by decide +kernel, by decide +kernel, rfl, fun _ => ⟨tyX0, tyX0_ok, nmX0⟩⟩
theorem kcX0_visibleSet_109 : fCv wsX0_visibleSet RX0 109 0 yX0_isVisible wsX0_isVisible rmX0_visibleSet rmX0_isVisible 2 := ⟨(RX0, TX0, 7), cX0_isVisible, 3, (some .boolean), _, rfl, gX0_visibleSet_X0_isVisible, rfl, rfl, rfl, ⟨rfl, by decide, by decide, by decide +kernel⟩, by decide, by decide⟩
theorem kfX0_cellsInRow_33 : fFl wsX0_cellsInRow RX0 33 0 1 := ⟨(RX0, TX0, 7), rfl, by decide, by decide +kernel, by decide +kernel, rfl, fun _ => ⟨tyX0, tyX0_ok, nmX0⟩⟩
theorem kfX0_cellsInRow_11 : fFl wsX0_cellsInRow RX0 11 0 0 := ⟨(RX0, TX0, 7), rfl, by decide, by decide +kernel, by decide +kernel, rfl, fun _ => ⟨tyX0, tyX0_ok, nmX0⟩⟩
theorem kcX0_cellsInRow_109 : fCv wsX0_cellsInRow RX0 109 0 yX0_isVisible wsX0_isVisible rmX0_cellsInRow rmX0_isVisible 2 := ⟨(RX0, TX0, 7), cX0_isVisible, 3, (some .boolean), _, rfl, gX0_cellsInRow_X0_isVisible, rfl, rfl, rfl, ⟨rfl, by decide, by decide, by decide +kernel⟩, by decide, by decide⟩
theorem kcX0_cellsInRow_113 : fCv wsX0_cellsInRow RX0 113 0 yX0_rowOf wsX0_rowOf rmX0_cellsInRow rmX0_rowOf 2 := ⟨(RX0, TX0, 7), cX0_rowOf, 3, (some .int), _, rfl, gX0_cellsInRow_X0_rowOf, rfl, rfl, rfl, ⟨rfl, by decide, by decide, by decide +kernel⟩, by decide, by decide⟩
theorem kcX0_cellsInRow_117 : fCv wsX0_cellsInRow RX0 117 0 yX0_columnOf wsX0_columnOf rmX0_cellsInRow rmX0_columnOf 2 := ⟨(RX0, TX0, 7), cX0_columnOf, 3, (some .int), _, rfl, gX0_cellsInRow_X0_columnOf, rfl, rfl, rfl, ⟨rfl, by decide, by decide, by decide +kernel⟩, by decide, by decide⟩
theorem kfX0_cellsInRow_52 : fFl wsX0_cellsInRow RX0 52 2 1 := ⟨(RX2, TX2, 9), rfl, by decide, by decide +kernel, by decide +kernel, rfl, fun _ => ⟨tyX2, tyX2_ok, nmX2⟩⟩
theorem kcX0_cellsInRow_97 : Cond.methodLink RX0 97 Lib.Math.min.name ∈ wsX0_cellsInRow ∧ Cond.static Lib.Math.min.name ∈ wsX0_cellsInRow ∧ Cond.initialized "java/lang/Math" ∈ wsX0_cellsInRow ∧ Cond.code Lib.Math.min.name Lib.Math.min.code 2 (some .int) ∈ wsX0_cellsInRow := ⟨by decide +kernel, by decide +kernel, by decide +kernel, by decide +kernel⟩
theorem kcX0_cellsInRow_120 : Cond.methodLink RX0 120 Lib.Math.max.name ∈ wsX0_cellsInRow ∧ Cond.static Lib.Math.max.name ∈ wsX0_cellsInRow ∧ Cond.initialized "java/lang/Math" ∈ wsX0_cellsInRow ∧ Cond.code Lib.Math.max.name Lib.Math.max.code 2 (some .int) ∈ wsX0_cellsInRow := ⟨by decide +kernel, by decide +kernel, by decide +kernel, by decide +kernel⟩
theorem kfX0_firstMeeting_67 : fFl wsX0_firstMeeting RX0 67 2 6 := ⟨(RX2, TX2, 9), rfl, by decide, by decide +kernel, by decide +kernel, rfl, fun _ => ⟨tyX2, tyX2_ok, nmX2⟩⟩
theorem kfX0_firstMeeting_76 : fFl wsX0_firstMeeting RX0 76 2 7 := ⟨(RX2, TX2, 9), rfl, by decide, by decide +kernel, by decide +kernel, rfl, fun _ => ⟨tyX2, tyX2_ok, nmX2⟩⟩
theorem kcX0_firstMeeting_124 : fCv wsX0_firstMeeting RX0 124 2 yX2_keepsLane wsX2_keepsLane rmX0_firstMeeting rmX2_keepsLane 0 := ⟨(RX2, TX2, 9), cX2_keepsLane, 1, (some .boolean), _, rfl, gX0_firstMeeting_X2_keepsLane, rfl, rfl, rfl, ⟨rfl, by decide, by decide, by decide +kernel⟩, by decide, by decide⟩
theorem kfX0_firstMeeting_55 : fFl wsX0_firstMeeting RX0 55 2 2 := ⟨(RX2, TX2, 9), rfl, by decide, by decide +kernel, by decide +kernel, rfl, fun _ => ⟨tyX2, tyX2_ok, nmX2⟩⟩
theorem kcX0_firstMeeting_120 : Cond.methodLink RX0 120 Lib.Math.max.name ∈ wsX0_firstMeeting ∧ Cond.static Lib.Math.max.name ∈ wsX0_firstMeeting ∧ Cond.initialized "java/lang/Math" ∈ wsX0_firstMeeting ∧ Cond.code Lib.Math.max.name Lib.Math.max.code 2 (some .int) ∈ wsX0_firstMeeting := ⟨by decide +kernel, by decide +kernel, by decide +kernel, by decide +kernel⟩
theorem kcX0_firstMeeting_106 : fCv wsX0_firstMeeting RX0 106 0 yX0_goneFrom wsX0_goneFrom rmX0_firstMeeting rmX0_goneFrom 1 := ⟨(RX0, TX0, 7), cX0_goneFrom, 4, (some .int), _, rfl, gX0_firstMeeting_X0_goneFrom, rfl, rfl, rfl, ⟨rfl, by decide, by decide, by decide +kernel⟩, by decide, by decide⟩
theorem kcX0_firstMeeting_97 : Cond.methodLink RX0 97 Lib.Math.min.name ∈ wsX0_firstMeeting ∧ Cond.static Lib.Math.min.name ∈ wsX0_firstMeeting ∧ Cond.initialized "java/lang/Math" ∈ wsX0_firstMeeting ∧ Cond.code Lib.Math.min.name Lib.Math.min.code 2 (some .int) ∈ wsX0_firstMeeting := ⟨by decide +kernel, by decide +kernel, by decide +kernel, by decide +kernel⟩
theorem kcX0_firstMeeting_128 : fCv wsX0_firstMeeting RX0 128 0 yX0_shareCell wsX0_shareCell rmX0_firstMeeting rmX0_shareCell 3 := ⟨(RX0, TX0, 7), cX0_shareCell, 8, (some .boolean), _, rfl, gX0_firstMeeting_X0_shareCell, rfl, rfl, rfl, ⟨rfl, by decide, by decide, by decide +kernel⟩, by decide, by decide⟩
theorem kcX0_firstMeeting_89 : fCv wsX0_firstMeeting RX0 89 2 yX2_leavesIn wsX2_leavesIn rmX0_firstMeeting rmX2_leavesIn 0 := ⟨(RX2, TX2, 9), cX2_leavesIn, 1, (some .int), _, rfl, gX0_firstMeeting_X2_leavesIn, rfl, rfl, rfl, ⟨rfl, by decide, by decide, by decide +kernel⟩, by decide, by decide⟩
theorem kcX0_shareCell_113 : fCv wsX0_shareCell RX0 113 0 yX0_rowOf wsX0_rowOf rmX0_shareCell rmX0_rowOf 2 := ⟨(RX0, TX0, 7), cX0_rowOf, 3, (some .int), _, rfl, gX0_shareCell_X0_rowOf, rfl, rfl, rfl, ⟨rfl, by decide, by decide, by decide +kernel⟩, by decide, by decide⟩
theorem kcX0_shareCell_117 : fCv wsX0_shareCell RX0 117 0 yX0_columnOf wsX0_columnOf rmX0_shareCell rmX0_columnOf 2 := ⟨(RX0, TX0, 7), cX0_columnOf, 3, (some .int), _, rfl, gX0_shareCell_X0_columnOf, rfl, rfl, rfl, ⟨rfl, by decide, by decide, by decide +kernel⟩, by decide, by decide⟩
theorem kcX0_shareCell_120 : Cond.methodLink RX0 120 Lib.Math.max.name ∈ wsX0_shareCell ∧ Cond.static Lib.Math.max.name ∈ wsX0_shareCell ∧ Cond.initialized "java/lang/Math" ∈ wsX0_shareCell ∧ Cond.code Lib.Math.max.name Lib.Math.max.code 2 (some .int) ∈ wsX0_shareCell := ⟨by decide +kernel, by decide +kernel, by decide +kernel, by decide +kernel⟩
theorem kfX0_shareCell_52 : fFl wsX0_shareCell RX0 52 2 1 := ⟨(RX2, TX2, 9), rfl, by decide, by decide +kernel, by decide +kernel, rfl, fun _ => ⟨tyX2, tyX2_ok, nmX2⟩⟩
theorem kcX0_shareCell_97 : Cond.methodLink RX0 97 Lib.Math.min.name ∈ wsX0_shareCell ∧ Cond.static Lib.Math.min.name ∈ wsX0_shareCell ∧ Cond.initialized "java/lang/Math" ∈ wsX0_shareCell ∧ Cond.code Lib.Math.min.name Lib.Math.min.code 2 (some .int) ∈ wsX0_shareCell := ⟨by decide +kernel, by decide +kernel, by decide +kernel, by decide +kernel⟩
theorem kfX0_isFree_26 : fFl wsX0_isFree RX0 26 0 5 := ⟨(RX0, TX0, 7), rfl, by decide, by decide +kernel, by decide +kernel, rfl, fun _ => ⟨tyX0, tyX0_ok, nmX0⟩⟩
theorem kfX0_isFree_11 : fFl wsX0_isFree RX0 11 0 0 := ⟨(RX0, TX0, 7), rfl, by decide, by decide +kernel, by decide +kernel, rfl, fun _ => ⟨tyX0, tyX0_ok, nmX0⟩⟩
theorem kcX0_isFree_36 : fCv wsX0_isFree RX0 36 2 yX2_copyFrom wsX2_copyFrom rmX0_isFree rmX2_copyFrom 1 := ⟨(RX2, TX2, 9), cX2_copyFrom, 2, none, _, rfl, gX0_isFree_X2_copyFrom, rfl, rfl, rfl, ⟨rfl, by decide, by decide, by decide +kernel⟩, by decide, by decide⟩
theorem kfX0_isFree_55 : fFl wsX0_isFree RX0 55 2 2 := ⟨(RX2, TX2, 9), rfl, by decide, by decide +kernel, by decide +kernel, rfl, fun _ => ⟨tyX2, tyX2_ok, nmX2⟩⟩
theorem kcX0_isFree_132 : fCv wsX0_isFree RX0 132 2 yX2_putAt wsX2_putAt rmX0_isFree rmX2_putAt 2 := ⟨(RX2, TX2, 9), cX2_putAt, 3, none, _, rfl, gX0_isFree_X2_putAt, rfl, rfl, rfl, ⟨rfl, by decide, by decide, by decide +kernel⟩, by decide, by decide⟩
theorem kfX0_isFree_33 : fFl wsX0_isFree RX0 33 0 1 := ⟨(RX0, TX0, 7), rfl, by decide, by decide +kernel, by decide +kernel, rfl, fun _ => ⟨tyX0, tyX0_ok, nmX0⟩⟩
theorem kcX0_isFree_71 : fCv wsX0_isFree RX0 71 0 yX0_firstMeeting wsX0_firstMeeting rmX0_isFree rmX0_firstMeeting 2 := ⟨(RX0, TX0, 7), cX0_firstMeeting, 7, (some .int), _, rfl, gX0_isFree_X0_firstMeeting, rfl, rfl, rfl, ⟨rfl, by decide, by decide, by decide +kernel⟩, by decide, by decide⟩
theorem kfX0_takeAllWords_33 : fFl wsX0_takeAllWords RX0 33 0 1 := ⟨(RX0, TX0, 7), rfl, by decide, by decide +kernel, by decide +kernel, rfl, fun _ => ⟨tyX0, tyX0_ok, nmX0⟩⟩
theorem kfX0_takeAllWords_11 : fFl wsX0_takeAllWords RX0 11 0 0 := ⟨(RX0, TX0, 7), rfl, by decide, by decide +kernel, by decide +kernel, rfl, fun _ => ⟨tyX0, tyX0_ok, nmX0⟩⟩
theorem kfX0_takeAllWords_67 : fFl wsX0_takeAllWords RX0 67 2 6 := ⟨(RX2, TX2, 9), rfl, by decide, by decide +kernel, by decide +kernel, rfl, fun _ => ⟨tyX2, tyX2_ok, nmX2⟩⟩
theorem kfX0_sortForPutting_33 : fFl wsX0_sortForPutting RX0 33 0 1 := ⟨(RX0, TX0, 7), rfl, by decide, by decide +kernel, by decide +kernel, rfl, fun _ => ⟨tyX0, tyX0_ok, nmX0⟩⟩
theorem kfX0_sortForPutting_11 : fFl wsX0_sortForPutting RX0 11 0 0 := ⟨(RX0, TX0, 7), rfl, by decide, by decide +kernel, by decide +kernel, rfl, fun _ => ⟨tyX0, tyX0_ok, nmX0⟩⟩
theorem kfX0_sortForPutting_30 : fFl wsX0_sortForPutting RX0 30 0 6 := ⟨(RX0, TX0, 7), rfl, by decide, by decide +kernel, by decide +kernel, rfl, fun _ => ⟨tyX0, tyX0_ok, nmX0⟩⟩
theorem kcX0_sortForPutting_136 : fCs wsX0_sortForPutting RX0 136 yX0_comesBefore wsX0_comesBefore rmX0_sortForPutting rmX0_comesBefore 2 := ⟨cX0_comesBefore, 2, (some .boolean), _, gX0_sortForPutting_X0_comesBefore, rfl, rfl, rfl, ⟨rfl, by decide, by decide, by decide +kernel⟩, by decide, by decide⟩
theorem kfX0_comesBefore_55 : fFl wsX0_comesBefore RX0 55 2 2 := ⟨(RX2, TX2, 9), rfl, by decide, by decide +kernel, by decide +kernel, rfl, fun _ => ⟨tyX2, tyX2_ok, nmX2⟩⟩
theorem kfX0_comesBefore_52 : fFl wsX0_comesBefore RX0 52 2 1 := ⟨(RX2, TX2, 9), rfl, by decide, by decide +kernel, by decide +kernel, rfl, fun _ => ⟨tyX2, tyX2_ok, nmX2⟩⟩
theorem kfX0_putAtFirstPlace_11 : fFl wsX0_putAtFirstPlace RX0 11 0 0 := ⟨(RX0, TX0, 7), rfl, by decide, by decide +kernel, by decide +kernel, rfl, fun _ => ⟨tyX0, tyX0_ok, nmX0⟩⟩
theorem kcX0_putAtFirstPlace_140 : fCv wsX0_putAtFirstPlace RX0 140 2 yX2_lastColumn wsX2_lastColumn rmX0_putAtFirstPlace rmX2_lastColumn 0 := ⟨(RX2, TX2, 9), cX2_lastColumn, 1, (some .int), _, rfl, gX0_putAtFirstPlace_X2_lastColumn, rfl, rfl, rfl, ⟨rfl, by decide, by decide, by decide +kernel⟩, by decide, by decide⟩
theorem kfX0_putAtFirstPlace_55 : fFl wsX0_putAtFirstPlace RX0 55 2 2 := ⟨(RX2, TX2, 9), rfl, by decide, by decide +kernel, by decide +kernel, rfl, fun _ => ⟨tyX2, tyX2_ok, nmX2⟩⟩
theorem kcX0_putAtFirstPlace_146 : fCv wsX0_putAtFirstPlace RX0 146 0 yX0_isFree wsX0_isFree rmX0_putAtFirstPlace rmX0_isFree 4 := ⟨(RX0, TX0, 7), cX0_isFree, 6, (some .boolean), _, rfl, gX0_putAtFirstPlace_X0_isFree, rfl, rfl, rfl, ⟨rfl, by decide, by decide, by decide +kernel⟩, by decide, by decide⟩
theorem kcX0_putAtFirstPlace_132 : fCv wsX0_putAtFirstPlace RX0 132 2 yX2_putAt wsX2_putAt rmX0_putAtFirstPlace rmX2_putAt 2 := ⟨(RX2, TX2, 9), cX2_putAt, 3, none, _, rfl, gX0_putAtFirstPlace_X2_putAt, rfl, rfl, rfl, ⟨rfl, by decide, by decide, by decide +kernel⟩, by decide, by decide⟩
theorem kfX1_init_9 : fFl wsX1_init RX1 9 1 0 := ⟨(RX1, TX1, 5), rfl, by decide, by decide +kernel, by decide +kernel, rfl, fun _ => ⟨tyX1, tyX1_ok, nmX1⟩⟩
theorem kfX1_readInto_15 : fFl wsX1_readInto RX1 15 1 4 := ⟨(RX1, TX1, 5), rfl, by decide, by decide +kernel, by decide +kernel, rfl, fun _ => ⟨tyX1, tyX1_ok, nmX1⟩⟩
theorem kcX1_readInto_19 : fCv wsX1_readInto RX1 19 1 yX1_step wsX1_step rmX1_readInto rmX1_step 0 := ⟨(RX1, TX1, 5), cX1_step, 1, none, _, rfl, gX1_readInto_X1_step, rfl, rfl, rfl, ⟨rfl, by decide, by decide, by decide +kernel⟩, by decide, by decide⟩
theorem kfX1_readInto_22 : fFl wsX1_readInto RX1 22 1 2 := ⟨(RX1, TX1, 5), rfl, by decide, by decide +kernel, by decide +kernel, rfl, fun _ => ⟨tyX1, tyX1_ok, nmX1⟩⟩
theorem kcX1_readInto_25 : fCv wsX1_readInto RX1 25 1 yX1_readItem wsX1_readItem rmX1_readInto rmX1_readItem 1 := ⟨(RX1, TX1, 5), cX1_readItem, 2, (some .boolean), _, rfl, gX1_readInto_X1_readItem, rfl, rfl, rfl, ⟨rfl, by decide, by decide, by decide +kernel⟩, by decide, by decide⟩
theorem kfX1_readInto_29 : fFl wsX1_readInto RX1 29 1 3 := ⟨(RX1, TX1, 5), rfl, by decide, by decide +kernel, by decide +kernel, rfl, fun _ => ⟨tyX1, tyX1_ok, nmX1⟩⟩
theorem kcX1_readItem_34 : fCv wsX1_readItem RX1 34 1 yX1_isName wsX1_isName rmX1_readItem rmX1_isName 1 := ⟨(RX1, TX1, 5), cX1_isName, 3, (some .boolean), _, rfl, gX1_readItem_X1_isName, rfl, rfl, rfl, ⟨rfl, by decide, by decide, by decide +kernel⟩, by decide, by decide⟩
theorem kcX1_readItem_38 : fCv wsX1_readItem RX1 38 0 yX0_hasRoomForWord wsX0_hasRoomForWord rmX1_readItem rmX0_hasRoomForWord 0 := ⟨(RX0, TX0, 7), cX0_hasRoomForWord, 1, (some .boolean), _, rfl, gX1_readItem_X0_hasRoomForWord, rfl, rfl, rfl, ⟨rfl, by decide, by decide, by decide +kernel⟩, by decide, by decide⟩
theorem kcX1_readItem_44 : fCv wsX1_readItem RX1 44 1 yX1_readWord wsX1_readWord rmX1_readItem rmX1_readWord 1 := ⟨(RX1, TX1, 5), cX1_readWord, 9, (some .boolean), _, rfl, gX1_readItem_X1_readWord, rfl, rfl, rfl, ⟨rfl, by decide, by decide, by decide +kernel⟩, by decide, by decide⟩
theorem kcX1_readItem_49 : fCv wsX1_readItem RX1 49 0 yX0_hasRoomForShot wsX0_hasRoomForShot rmX1_readItem rmX0_hasRoomForShot 0 := ⟨(RX0, TX0, 7), cX0_hasRoomForShot, 1, (some .boolean), _, rfl, gX1_readItem_X0_hasRoomForShot, rfl, rfl, rfl, ⟨rfl, by decide, by decide, by decide +kernel⟩, by decide, by decide⟩
theorem kcX1_readItem_52 : fCv wsX1_readItem RX1 52 1 yX1_readShot wsX1_readShot rmX1_readItem rmX1_readShot 1 := ⟨(RX1, TX1, 5), cX1_readShot, 3, (some .boolean), _, rfl, gX1_readItem_X1_readShot, rfl, rfl, rfl, ⟨rfl, by decide, by decide, by decide +kernel⟩, by decide, by decide⟩
theorem kcX1_readWord_19 : fCv wsX1_readWord RX1 19 1 yX1_step wsX1_step rmX1_readWord rmX1_step 0 := ⟨(RX1, TX1, 5), cX1_step, 1, none, _, rfl, gX1_readWord_X1_step, rfl, rfl, rfl, ⟨rfl, by decide, by decide, by decide +kernel⟩, by decide, by decide⟩
theorem kfX1_readWord_29 : fFl wsX1_readWord RX1 29 1 3 := ⟨(RX1, TX1, 5), rfl, by decide, by decide +kernel, by decide +kernel, rfl, fun _ => ⟨tyX1, tyX1_ok, nmX1⟩⟩
theorem kfX1_readWord_15 : fFl wsX1_readWord RX1 15 1 4 := ⟨(RX1, TX1, 5), rfl, by decide, by decide +kernel, by decide +kernel, rfl, fun _ => ⟨tyX1, tyX1_ok, nmX1⟩⟩
theorem kfX1_readWord_22 : fFl wsX1_readWord RX1 22 1 2 := ⟨(RX1, TX1, 5), rfl, by decide, by decide +kernel, by decide +kernel, rfl, fun _ => ⟨tyX1, tyX1_ok, nmX1⟩⟩
theorem kcX1_readWord_55 : fCv wsX1_readWord RX1 55 1 yX1_numberOf wsX1_numberOf rmX1_readWord rmX1_numberOf 0 := ⟨(RX1, TX1, 5), cX1_numberOf, 3, (some .int), _, rfl, gX1_readWord_X1_numberOf, rfl, rfl, rfl, ⟨rfl, by decide, by decide, by decide +kernel⟩, by decide, by decide⟩
theorem kcX1_readWord_59 : fCn wsX1_readWord RX1 59 yX3_isAllowed wsX3_isAllowed rmX1_readWord rmX3_isAllowed 2 := ⟨cX3_isAllowed, 2, (some .boolean), _, gX1_readWord_X3_isAllowed_n59, rfl, rfl, rfl, ⟨by decide, by decide, by decide +kernel⟩, ⟨by decide, by decide⟩, by decide +kernel, by decide +kernel⟩
theorem kcX1_readWord_63 : fCv wsX1_readWord RX1 63 1 yX1_wayOf wsX1_wayOf rmX1_readWord rmX1_wayOf 0 := ⟨(RX1, TX1, 5), cX1_wayOf, 1, (some .int), _, rfl, gX1_readWord_X1_wayOf, rfl, rfl, rfl, ⟨rfl, by decide, by decide, by decide +kernel⟩, by decide, by decide⟩
theorem kcX1_readWord_66 : fCv wsX1_readWord RX1 66 0 yX0_appendWord wsX0_appendWord rmX1_readWord rmX0_appendWord 5 := ⟨(RX0, TX0, 7), cX0_appendWord, 8, (some (.object "VoiceWords$Word")), _, rfl, gX1_readWord_X0_appendWord, rfl, rfl, rfl, ⟨rfl, by decide, by decide, by decide +kernel⟩, by decide, by decide⟩
theorem kfX1_readWord_9 : fFl wsX1_readWord RX1 9 1 0 := ⟨(RX1, TX1, 5), rfl, by decide, by decide +kernel, by decide +kernel, rfl, fun _ => ⟨tyX1, tyX1_ok, nmX1⟩⟩
theorem kfX1_readWord_70 : fFl wsX1_readWord RX1 70 2 0 := ⟨(RX2, TX2, 9), rfl, by decide, by decide +kernel, by decide +kernel, rfl, fun _ => ⟨tyX2, tyX2_ok, nmX2⟩⟩
theorem kcX1_readWord_75 : Cond.methodLink RX1 75 arraycopyName ∈ wsX1_readWord ∧ Cond.native arraycopyName ∈ wsX1_readWord ∧ Cond.static arraycopyName ∈ wsX1_readWord ∧ Cond.initialized "java/lang/System" ∈ wsX1_readWord := ⟨by decide +kernel, by decide +kernel, by decide +kernel, by decide +kernel⟩
theorem kcX1_readShot_19 : fCv wsX1_readShot RX1 19 1 yX1_step wsX1_step rmX1_readShot rmX1_step 0 := ⟨(RX1, TX1, 5), cX1_step, 1, none, _, rfl, gX1_readShot_X1_step, rfl, rfl, rfl, ⟨rfl, by decide, by decide, by decide +kernel⟩, by decide, by decide⟩
theorem kcX1_readShot_55 : fCv wsX1_readShot RX1 55 1 yX1_numberOf wsX1_numberOf rmX1_readShot rmX1_numberOf 0 := ⟨(RX1, TX1, 5), cX1_numberOf, 3, (some .int), _, rfl, gX1_readShot_X1_numberOf, rfl, rfl, rfl, ⟨rfl, by decide, by decide, by decide +kernel⟩, by decide, by decide⟩
theorem kcX1_readShot_81 : fCn wsX1_readShot RX1 81 yX3_isBetween wsX3_isBetween rmX1_readShot rmX3_isBetween 3 := ⟨cX3_isBetween, 3, (some .boolean), _, gX1_readShot_X3_isBetween_n81, rfl, rfl, rfl, ⟨by decide, by decide, by decide +kernel⟩, ⟨by decide, by decide⟩, by decide +kernel, by decide +kernel⟩
theorem kcX1_readShot_85 : fCv wsX1_readShot RX1 85 0 yX0_hasShotIn wsX0_hasShotIn rmX1_readShot rmX0_hasShotIn 1 := ⟨(RX0, TX0, 7), cX0_hasShotIn, 3, (some .boolean), _, rfl, gX1_readShot_X0_hasShotIn, rfl, rfl, rfl, ⟨rfl, by decide, by decide, by decide +kernel⟩, by decide, by decide⟩
theorem kfX1_readShot_22 : fFl wsX1_readShot RX1 22 1 2 := ⟨(RX1, TX1, 5), rfl, by decide, by decide +kernel, by decide +kernel, rfl, fun _ => ⟨tyX1, tyX1_ok, nmX1⟩⟩
theorem kcX1_readShot_89 : fCv wsX1_readShot RX1 89 0 yX0_insertShot wsX0_insertShot rmX1_readShot rmX0_insertShot 1 := ⟨(RX0, TX0, 7), cX0_insertShot, 3, none, _, rfl, gX1_readShot_X0_insertShot, rfl, rfl, rfl, ⟨rfl, by decide, by decide, by decide +kernel⟩, by decide, by decide⟩
theorem kfX1_step_15 : fFl wsX1_step RX1 15 1 4 := ⟨(RX1, TX1, 5), rfl, by decide, by decide +kernel, by decide +kernel, rfl, fun _ => ⟨tyX1, tyX1_ok, nmX1⟩⟩
theorem kfX1_step_29 : fFl wsX1_step RX1 29 1 3 := ⟨(RX1, TX1, 5), rfl, by decide, by decide +kernel, by decide +kernel, rfl, fun _ => ⟨tyX1, tyX1_ok, nmX1⟩⟩
theorem kfX1_step_93 : fFl wsX1_step RX1 93 1 1 := ⟨(RX1, TX1, 5), rfl, by decide, by decide +kernel, by decide +kernel, rfl, fun _ => ⟨tyX1, tyX1_ok, nmX1⟩⟩
theorem kfX1_step_9 : fFl wsX1_step RX1 9 1 0 := ⟨(RX1, TX1, 5), rfl, by decide, by decide +kernel, by decide +kernel, rfl, fun _ => ⟨tyX1, tyX1_ok, nmX1⟩⟩
theorem kcX1_step_96 : fCv wsX1_step RX1 96 1 yX1_kindAt wsX1_kindAt rmX1_step rmX1_kindAt 1 := ⟨(RX1, TX1, 5), cX1_kindAt, 3, (some .int), _, rfl, gX1_step_X1_kindAt, rfl, rfl, rfl, ⟨rfl, by decide, by decide, by decide +kernel⟩, by decide, by decide⟩
theorem kfX1_step_22 : fFl wsX1_step RX1 22 1 2 := ⟨(RX1, TX1, 5), rfl, by decide, by decide +kernel, by decide +kernel, rfl, fun _ => ⟨tyX1, tyX1_ok, nmX1⟩⟩
theorem kfX1_kindAt_93 : fFl wsX1_kindAt RX1 93 1 1 := ⟨(RX1, TX1, 5), rfl, by decide, by decide +kernel, by decide +kernel, rfl, fun _ => ⟨tyX1, tyX1_ok, nmX1⟩⟩
theorem kfX1_kindAt_9 : fFl wsX1_kindAt RX1 9 1 0 := ⟨(RX1, TX1, 5), rfl, by decide, by decide +kernel, by decide +kernel, rfl, fun _ => ⟨tyX1, tyX1_ok, nmX1⟩⟩
theorem kfX1_isName_22 : fFl wsX1_isName RX1 22 1 2 := ⟨(RX1, TX1, 5), rfl, by decide, by decide +kernel, by decide +kernel, rfl, fun _ => ⟨tyX1, tyX1_ok, nmX1⟩⟩
theorem kfX1_isName_15 : fFl wsX1_isName RX1 15 1 4 := ⟨(RX1, TX1, 5), rfl, by decide, by decide +kernel, by decide +kernel, rfl, fun _ => ⟨tyX1, tyX1_ok, nmX1⟩⟩
theorem kfX1_isName_29 : fFl wsX1_isName RX1 29 1 3 := ⟨(RX1, TX1, 5), rfl, by decide, by decide +kernel, by decide +kernel, rfl, fun _ => ⟨tyX1, tyX1_ok, nmX1⟩⟩
theorem kfX1_isName_9 : fFl wsX1_isName RX1 9 1 0 := ⟨(RX1, TX1, 5), rfl, by decide, by decide +kernel, by decide +kernel, rfl, fun _ => ⟨tyX1, tyX1_ok, nmX1⟩⟩
theorem kcX1_wayOf_34 : fCv wsX1_wayOf RX1 34 1 yX1_isName wsX1_isName rmX1_wayOf rmX1_isName 1 := ⟨(RX1, TX1, 5), cX1_isName, 3, (some .boolean), _, rfl, gX1_wayOf_X1_isName, rfl, rfl, rfl, ⟨rfl, by decide, by decide, by decide +kernel⟩, by decide, by decide⟩
theorem kfX1_numberOf_22 : fFl wsX1_numberOf RX1 22 1 2 := ⟨(RX1, TX1, 5), rfl, by decide, by decide +kernel, by decide +kernel, rfl, fun _ => ⟨tyX1, tyX1_ok, nmX1⟩⟩
theorem kfX1_numberOf_9 : fFl wsX1_numberOf RX1 9 1 0 := ⟨(RX1, TX1, 5), rfl, by decide, by decide +kernel, by decide +kernel, rfl, fun _ => ⟨tyX1, tyX1_ok, nmX1⟩⟩
theorem kfX1_numberOf_29 : fFl wsX1_numberOf RX1 29 1 3 := ⟨(RX1, TX1, 5), rfl, by decide, by decide +kernel, by decide +kernel, rfl, fun _ => ⟨tyX1, tyX1_ok, nmX1⟩⟩
theorem kfX1_numberOf_15 : fFl wsX1_numberOf RX1 15 1 4 := ⟨(RX1, TX1, 5), rfl, by decide, by decide +kernel, by decide +kernel, rfl, fun _ => ⟨tyX1, tyX1_ok, nmX1⟩⟩
theorem kfX2_init_9 : fFl wsX2_init RX2 9 2 0 := ⟨(RX2, TX2, 9), rfl, by decide, by decide +kernel, by decide +kernel, rfl, fun _ => ⟨tyX2, tyX2_ok, nmX2⟩⟩
theorem kfX2_copyFrom_9 : fFl wsX2_copyFrom RX2 9 2 0 := ⟨(RX2, TX2, 9), rfl, by decide, by decide +kernel, by decide +kernel, rfl, fun _ => ⟨tyX2, tyX2_ok, nmX2⟩⟩
theorem kcX2_copyFrom_15 : Cond.methodLink RX2 15 arraycopyName ∈ wsX2_copyFrom ∧ Cond.native arraycopyName ∈ wsX2_copyFrom ∧ Cond.static arraycopyName ∈ wsX2_copyFrom ∧ Cond.initialized "java/lang/System" ∈ wsX2_copyFrom := ⟨by decide +kernel, by decide +kernel, by decide +kernel, by decide +kernel⟩
theorem kfX2_copyFrom_21 : fFl wsX2_copyFrom RX2 21 2 1 := ⟨(RX2, TX2, 9), rfl, by decide, by decide +kernel, by decide +kernel, rfl, fun _ => ⟨tyX2, tyX2_ok, nmX2⟩⟩
theorem kfX2_copyFrom_25 : fFl wsX2_copyFrom RX2 25 2 2 := ⟨(RX2, TX2, 9), rfl, by decide, by decide +kernel, by decide +kernel, rfl, fun _ => ⟨tyX2, tyX2_ok, nmX2⟩⟩
theorem kfX2_copyFrom_28 : fFl wsX2_copyFrom RX2 28 2 3 := ⟨(RX2, TX2, 9), rfl, by decide, by decide +kernel, by decide +kernel, rfl, fun _ => ⟨tyX2, tyX2_ok, nmX2⟩⟩
theorem kfX2_copyFrom_31 : fFl wsX2_copyFrom RX2 31 2 4 := ⟨(RX2, TX2, 9), rfl, by decide, by decide +kernel, by decide +kernel, rfl, fun _ => ⟨tyX2, tyX2_ok, nmX2⟩⟩
theorem kfX2_copyFrom_34 : fFl wsX2_copyFrom RX2 34 2 5 := ⟨(RX2, TX2, 9), rfl, by decide, by decide +kernel, by decide +kernel, rfl, fun _ => ⟨tyX2, tyX2_ok, nmX2⟩⟩
theorem kfX2_copyFrom_37 : fFl wsX2_copyFrom RX2 37 2 6 := ⟨(RX2, TX2, 9), rfl, by decide, by decide +kernel, by decide +kernel, rfl, fun _ => ⟨tyX2, tyX2_ok, nmX2⟩⟩
theorem kfX2_copyFrom_41 : fFl wsX2_copyFrom RX2 41 2 7 := ⟨(RX2, TX2, 9), rfl, by decide, by decide +kernel, by decide +kernel, rfl, fun _ => ⟨tyX2, tyX2_ok, nmX2⟩⟩
theorem kfX2_copyFrom_44 : fFl wsX2_copyFrom RX2 44 2 8 := ⟨(RX2, TX2, 9), rfl, by decide, by decide +kernel, by decide +kernel, rfl, fun _ => ⟨tyX2, tyX2_ok, nmX2⟩⟩
theorem kfX2_property_25 : fFl wsX2_property RX2 25 2 2 := ⟨(RX2, TX2, 9), rfl, by decide, by decide +kernel, by decide +kernel, rfl, fun _ => ⟨tyX2, tyX2_ok, nmX2⟩⟩
theorem kfX2_property_28 : fFl wsX2_property RX2 28 2 3 := ⟨(RX2, TX2, 9), rfl, by decide, by decide +kernel, by decide +kernel, rfl, fun _ => ⟨tyX2, tyX2_ok, nmX2⟩⟩
theorem kfX2_property_31 : fFl wsX2_property RX2 31 2 4 := ⟨(RX2, TX2, 9), rfl, by decide, by decide +kernel, by decide +kernel, rfl, fun _ => ⟨tyX2, tyX2_ok, nmX2⟩⟩
theorem kfX2_property_34 : fFl wsX2_property RX2 34 2 5 := ⟨(RX2, TX2, 9), rfl, by decide, by decide +kernel, by decide +kernel, rfl, fun _ => ⟨tyX2, tyX2_ok, nmX2⟩⟩
theorem kfX2_setProperty_25 : fFl wsX2_setProperty RX2 25 2 2 := ⟨(RX2, TX2, 9), rfl, by decide, by decide +kernel, by decide +kernel, rfl, fun _ => ⟨tyX2, tyX2_ok, nmX2⟩⟩
theorem kfX2_setProperty_28 : fFl wsX2_setProperty RX2 28 2 3 := ⟨(RX2, TX2, 9), rfl, by decide, by decide +kernel, by decide +kernel, rfl, fun _ => ⟨tyX2, tyX2_ok, nmX2⟩⟩
theorem kfX2_setProperty_31 : fFl wsX2_setProperty RX2 31 2 4 := ⟨(RX2, TX2, 9), rfl, by decide, by decide +kernel, by decide +kernel, rfl, fun _ => ⟨tyX2, tyX2_ok, nmX2⟩⟩
theorem kfX2_setProperty_34 : fFl wsX2_setProperty RX2 34 2 5 := ⟨(RX2, TX2, 9), rfl, by decide, by decide +kernel, by decide +kernel, rfl, fun _ => ⟨tyX2, tyX2_ok, nmX2⟩⟩
theorem kfX2_putAt_37 : fFl wsX2_putAt RX2 37 2 6 := ⟨(RX2, TX2, 9), rfl, by decide, by decide +kernel, by decide +kernel, rfl, fun _ => ⟨tyX2, tyX2_ok, nmX2⟩⟩
theorem kfX2_putAt_41 : fFl wsX2_putAt RX2 41 2 7 := ⟨(RX2, TX2, 9), rfl, by decide, by decide +kernel, by decide +kernel, rfl, fun _ => ⟨tyX2, tyX2_ok, nmX2⟩⟩
theorem kfX2_putAt_44 : fFl wsX2_putAt RX2 44 2 8 := ⟨(RX2, TX2, 9), rfl, by decide, by decide +kernel, by decide +kernel, rfl, fun _ => ⟨tyX2, tyX2_ok, nmX2⟩⟩
theorem kfX2_leavesIn_25 : fFl wsX2_leavesIn RX2 25 2 2 := ⟨(RX2, TX2, 9), rfl, by decide, by decide +kernel, by decide +kernel, rfl, fun _ => ⟨tyX2, tyX2_ok, nmX2⟩⟩
theorem kfX2_leavesIn_28 : fFl wsX2_leavesIn RX2 28 2 3 := ⟨(RX2, TX2, 9), rfl, by decide, by decide +kernel, by decide +kernel, rfl, fun _ => ⟨tyX2, tyX2_ok, nmX2⟩⟩
theorem kfX2_leavesIn_31 : fFl wsX2_leavesIn RX2 31 2 4 := ⟨(RX2, TX2, 9), rfl, by decide, by decide +kernel, by decide +kernel, rfl, fun _ => ⟨tyX2, tyX2_ok, nmX2⟩⟩
theorem kfX2_stepsIn_25 : fFl wsX2_stepsIn RX2 25 2 2 := ⟨(RX2, TX2, 9), rfl, by decide, by decide +kernel, by decide +kernel, rfl, fun _ => ⟨tyX2, tyX2_ok, nmX2⟩⟩
theorem kfX2_stepsIn_28 : fFl wsX2_stepsIn RX2 28 2 3 := ⟨(RX2, TX2, 9), rfl, by decide, by decide +kernel, by decide +kernel, rfl, fun _ => ⟨tyX2, tyX2_ok, nmX2⟩⟩
theorem kfX2_stepsIn_31 : fFl wsX2_stepsIn RX2 31 2 4 := ⟨(RX2, TX2, 9), rfl, by decide, by decide +kernel, by decide +kernel, rfl, fun _ => ⟨tyX2, tyX2_ok, nmX2⟩⟩
theorem kfX2_keepsLane_34 : fFl wsX2_keepsLane RX2 34 2 5 := ⟨(RX2, TX2, 9), rfl, by decide, by decide +kernel, by decide +kernel, rfl, fun _ => ⟨tyX2, tyX2_ok, nmX2⟩⟩
theorem kfX2_lastColumn_21 : fFl wsX2_lastColumn RX2 21 2 1 := ⟨(RX2, TX2, 9), rfl, by decide, by decide +kernel, by decide +kernel, rfl, fun _ => ⟨tyX2, tyX2_ok, nmX2⟩⟩
theorem kfX2_cellsToLeave_34 : fFl wsX2_cellsToLeave RX2 34 2 5 := ⟨(RX2, TX2, 9), rfl, by decide, by decide +kernel, by decide +kernel, rfl, fun _ => ⟨tyX2, tyX2_ok, nmX2⟩⟩
theorem kfX2_cellsToLeave_44 : fFl wsX2_cellsToLeave RX2 44 2 8 := ⟨(RX2, TX2, 9), rfl, by decide, by decide +kernel, by decide +kernel, rfl, fun _ => ⟨tyX2, tyX2_ok, nmX2⟩⟩
theorem kfX2_cellsToLeave_21 : fFl wsX2_cellsToLeave RX2 21 2 1 := ⟨(RX2, TX2, 9), rfl, by decide, by decide +kernel, by decide +kernel, rfl, fun _ => ⟨tyX2, tyX2_ok, nmX2⟩⟩
theorem kfX2_cellsToLeave_41 : fFl wsX2_cellsToLeave RX2 41 2 7 := ⟨(RX2, TX2, 9), rfl, by decide, by decide +kernel, by decide +kernel, rfl, fun _ => ⟨tyX2, tyX2_ok, nmX2⟩⟩
theorem kfX3_init_10 : fFl wsX3_init RX3 10 3 0 := ⟨(RX3, TX3, 5), rfl, by decide, by decide +kernel, by decide +kernel, rfl, fun _ => ⟨tyX3, tyX3_ok, nmX3⟩⟩
theorem kfX3_init_16 : fFl wsX3_init RX3 16 3 1 := ⟨(RX3, TX3, 5), rfl, by decide, by decide +kernel, by decide +kernel, rfl, fun _ => ⟨tyX3, tyX3_ok, nmX3⟩⟩
theorem kfX3_init_19 : fFl wsX3_init RX3 19 3 2 := ⟨(RX3, TX3, 5), rfl, by decide, by decide +kernel, by decide +kernel, rfl, fun _ => ⟨tyX3, tyX3_ok, nmX3⟩⟩
theorem kfX3_init_23 : fFl wsX3_init RX3 23 3 3 := ⟨(RX3, TX3, 5), rfl, by decide, by decide +kernel, by decide +kernel, rfl, fun _ => ⟨tyX3, tyX3_ok, nmX3⟩⟩
theorem kfX3_init_30 : fFl wsX3_init RX3 30 3 4 := ⟨(RX3, TX3, 5), rfl, by decide, by decide +kernel, by decide +kernel, rfl, fun _ => ⟨tyX3, tyX3_ok, nmX3⟩⟩
theorem kcX3_addWord_34 : fCs wsX3_addWord RX3 34 yX3_isBetween wsX3_isBetween rmX3_addWord rmX3_isBetween 3 := ⟨cX3_isBetween, 3, (some .boolean), _, gX3_addWord_X3_isBetween, rfl, rfl, rfl, ⟨rfl, by decide, by decide, by decide +kernel⟩, by decide, by decide⟩
theorem kcX3_addWord_38 : fCs wsX3_addWord RX3 38 yX3_isAllowed wsX3_isAllowed rmX3_addWord rmX3_isAllowed 2 := ⟨cX3_isAllowed, 2, (some .boolean), _, gX3_addWord_X3_isAllowed, rfl, rfl, rfl, ⟨rfl, by decide, by decide, by decide +kernel⟩, by decide, by decide⟩
theorem kfX3_addWord_10 : fFl wsX3_addWord RX3 10 3 0 := ⟨(RX3, TX3, 5), rfl, by decide, by decide +kernel, by decide +kernel, rfl, fun _ => ⟨tyX3, tyX3_ok, nmX3⟩⟩
theorem kcX3_addWord_42 : fCv wsX3_addWord RX3 42 0 yX0_hasRoomForWord wsX0_hasRoomForWord rmX3_addWord rmX0_hasRoomForWord 0 := ⟨(RX0, TX0, 7), cX0_hasRoomForWord, 1, (some .boolean), _, rfl, gX3_addWord_X0_hasRoomForWord, rfl, rfl, rfl, ⟨rfl, by decide, by decide, by decide +kernel⟩, by decide, by decide⟩
theorem kcX3_addWord_46 : fCv wsX3_addWord RX3 46 3 yX3_record wsX3_record rmX3_addWord rmX3_record 0 := ⟨(RX3, TX3, 5), cX3_record, 1, none, _, rfl, gX3_addWord_X3_record, rfl, rfl, rfl, ⟨rfl, by decide, by decide, by decide +kernel⟩, by decide, by decide⟩
theorem kcX3_addWord_49 : fCv wsX3_addWord RX3 49 0 yX0_appendWord wsX0_appendWord rmX3_addWord rmX0_appendWord 5 := ⟨(RX0, TX0, 7), cX0_appendWord, 8, (some (.object "VoiceWords$Word")), _, rfl, gX3_addWord_X0_appendWord, rfl, rfl, rfl, ⟨rfl, by decide, by decide, by decide +kernel⟩, by decide, by decide⟩
theorem kfX3_addWord_53 : fFl wsX3_addWord RX3 53 0 1 := ⟨(RX0, TX0, 7), rfl, by decide, by decide +kernel, by decide +kernel, rfl, fun _ => ⟨tyX0, tyX0_ok, nmX0⟩⟩
theorem kfX3_removeWord_10 : fFl wsX3_removeWord RX3 10 3 0 := ⟨(RX3, TX3, 5), rfl, by decide, by decide +kernel, by decide +kernel, rfl, fun _ => ⟨tyX3, tyX3_ok, nmX3⟩⟩
theorem kcX3_removeWord_56 : fCv wsX3_removeWord RX3 56 0 yX0_hasWord wsX0_hasWord rmX3_removeWord rmX0_hasWord 1 := ⟨(RX0, TX0, 7), cX0_hasWord, 2, (some .boolean), _, rfl, gX3_removeWord_X0_hasWord, rfl, rfl, rfl, ⟨rfl, by decide, by decide, by decide +kernel⟩, by decide, by decide⟩
theorem kcX3_removeWord_46 : fCv wsX3_removeWord RX3 46 3 yX3_record wsX3_record rmX3_removeWord rmX3_record 0 := ⟨(RX3, TX3, 5), cX3_record, 1, none, _, rfl, gX3_removeWord_X3_record, rfl, rfl, rfl, ⟨rfl, by decide, by decide, by decide +kernel⟩, by decide, by decide⟩
theorem kcX3_removeWord_60 : fCv wsX3_removeWord RX3 60 0 yX0_deleteWord wsX0_deleteWord rmX3_removeWord rmX0_deleteWord 1 := ⟨(RX0, TX0, 7), cX0_deleteWord, 4, none, _, rfl, gX3_removeWord_X0_deleteWord, rfl, rfl, rfl, ⟨rfl, by decide, by decide, by decide +kernel⟩, by decide, by decide⟩
theorem kfX3_removeWord_53 : fFl wsX3_removeWord RX3 53 0 1 := ⟨(RX0, TX0, 7), rfl, by decide, by decide +kernel, by decide +kernel, rfl, fun _ => ⟨tyX0, tyX0_ok, nmX0⟩⟩
theorem kfX3_setWord_10 : fFl wsX3_setWord RX3 10 3 0 := ⟨(RX3, TX3, 5), rfl, by decide, by decide +kernel, by decide +kernel, rfl, fun _ => ⟨tyX3, tyX3_ok, nmX3⟩⟩
theorem kcX3_setWord_56 : fCv wsX3_setWord RX3 56 0 yX0_hasWord wsX0_hasWord rmX3_setWord rmX0_hasWord 1 := ⟨(RX0, TX0, 7), cX0_hasWord, 2, (some .boolean), _, rfl, gX3_setWord_X0_hasWord, rfl, rfl, rfl, ⟨rfl, by decide, by decide, by decide +kernel⟩, by decide, by decide⟩
theorem kcX3_setWord_38 : fCs wsX3_setWord RX3 38 yX3_isAllowed wsX3_isAllowed rmX3_setWord rmX3_isAllowed 2 := ⟨cX3_isAllowed, 2, (some .boolean), _, gX3_setWord_X3_isAllowed, rfl, rfl, rfl, ⟨rfl, by decide, by decide, by decide +kernel⟩, by decide, by decide⟩
theorem kcX3_setWord_46 : fCv wsX3_setWord RX3 46 3 yX3_record wsX3_record rmX3_setWord rmX3_record 0 := ⟨(RX3, TX3, 5), cX3_record, 1, none, _, rfl, gX3_setWord_X3_record, rfl, rfl, rfl, ⟨rfl, by decide, by decide, by decide +kernel⟩, by decide, by decide⟩
theorem kfX3_setWord_64 : fFl wsX3_setWord RX3 64 0 0 := ⟨(RX0, TX0, 7), rfl, by decide, by decide +kernel, by decide +kernel, rfl, fun _ => ⟨tyX0, tyX0_ok, nmX0⟩⟩
theorem kcX3_setWord_68 : fCv wsX3_setWord RX3 68 2 yX2_property wsX2_property rmX3_setWord rmX2_property 1 := ⟨(RX2, TX2, 9), cX2_property, 2, (some .int), _, rfl, gX3_setWord_X2_property, rfl, rfl, rfl, ⟨rfl, by decide, by decide, by decide +kernel⟩, by decide, by decide⟩
theorem kcX3_setWord_74 : fCv wsX3_setWord RX3 74 2 yX2_setProperty wsX2_setProperty rmX3_setWord rmX2_setProperty 2 := ⟨(RX2, TX2, 9), cX2_setProperty, 3, none, _, rfl, gX3_setWord_X2_setProperty, rfl, rfl, rfl, ⟨rfl, by decide, by decide, by decide +kernel⟩, by decide, by decide⟩
theorem kfX3_setWord_78 : fFl wsX3_setWord RX3 78 2 6 := ⟨(RX2, TX2, 9), rfl, by decide, by decide +kernel, by decide +kernel, rfl, fun _ => ⟨tyX2, tyX2_ok, nmX2⟩⟩
theorem kcX3_addShot_34 : fCs wsX3_addShot RX3 34 yX3_isBetween wsX3_isBetween rmX3_addShot rmX3_isBetween 3 := ⟨cX3_isBetween, 3, (some .boolean), _, gX3_addShot_X3_isBetween, rfl, rfl, rfl, ⟨rfl, by decide, by decide, by decide +kernel⟩, by decide, by decide⟩
theorem kfX3_addShot_10 : fFl wsX3_addShot RX3 10 3 0 := ⟨(RX3, TX3, 5), rfl, by decide, by decide +kernel, by decide +kernel, rfl, fun _ => ⟨tyX3, tyX3_ok, nmX3⟩⟩
theorem kcX3_addShot_82 : fCv wsX3_addShot RX3 82 0 yX0_hasShotIn wsX0_hasShotIn rmX3_addShot rmX0_hasShotIn 1 := ⟨(RX0, TX0, 7), cX0_hasShotIn, 3, (some .boolean), _, rfl, gX3_addShot_X0_hasShotIn, rfl, rfl, rfl, ⟨rfl, by decide, by decide, by decide +kernel⟩, by decide, by decide⟩
theorem kcX3_addShot_85 : fCv wsX3_addShot RX3 85 0 yX0_hasRoomForShot wsX0_hasRoomForShot rmX3_addShot rmX0_hasRoomForShot 0 := ⟨(RX0, TX0, 7), cX0_hasRoomForShot, 1, (some .boolean), _, rfl, gX3_addShot_X0_hasRoomForShot, rfl, rfl, rfl, ⟨rfl, by decide, by decide, by decide +kernel⟩, by decide, by decide⟩
theorem kcX3_addShot_46 : fCv wsX3_addShot RX3 46 3 yX3_record wsX3_record rmX3_addShot rmX3_record 0 := ⟨(RX3, TX3, 5), cX3_record, 1, none, _, rfl, gX3_addShot_X3_record, rfl, rfl, rfl, ⟨rfl, by decide, by decide, by decide +kernel⟩, by decide, by decide⟩
theorem kcX3_addShot_88 : fCv wsX3_addShot RX3 88 0 yX0_insertShot wsX0_insertShot rmX3_addShot rmX0_insertShot 1 := ⟨(RX0, TX0, 7), cX0_insertShot, 3, none, _, rfl, gX3_addShot_X0_insertShot, rfl, rfl, rfl, ⟨rfl, by decide, by decide, by decide +kernel⟩, by decide, by decide⟩
theorem kfX3_addShot_91 : fFl wsX3_addShot RX3 91 0 3 := ⟨(RX0, TX0, 7), rfl, by decide, by decide +kernel, by decide +kernel, rfl, fun _ => ⟨tyX0, tyX0_ok, nmX0⟩⟩
theorem kcX3_removeShot_34 : fCs wsX3_removeShot RX3 34 yX3_isBetween wsX3_isBetween rmX3_removeShot rmX3_isBetween 3 := ⟨cX3_isBetween, 3, (some .boolean), _, gX3_removeShot_X3_isBetween, rfl, rfl, rfl, ⟨rfl, by decide, by decide, by decide +kernel⟩, by decide, by decide⟩
theorem kfX3_removeShot_10 : fFl wsX3_removeShot RX3 10 3 0 := ⟨(RX3, TX3, 5), rfl, by decide, by decide +kernel, by decide +kernel, rfl, fun _ => ⟨tyX3, tyX3_ok, nmX3⟩⟩
theorem kcX3_removeShot_82 : fCv wsX3_removeShot RX3 82 0 yX0_hasShotIn wsX0_hasShotIn rmX3_removeShot rmX0_hasShotIn 1 := ⟨(RX0, TX0, 7), cX0_hasShotIn, 3, (some .boolean), _, rfl, gX3_removeShot_X0_hasShotIn, rfl, rfl, rfl, ⟨rfl, by decide, by decide, by decide +kernel⟩, by decide, by decide⟩
theorem kcX3_removeShot_46 : fCv wsX3_removeShot RX3 46 3 yX3_record wsX3_record rmX3_removeShot rmX3_record 0 := ⟨(RX3, TX3, 5), cX3_record, 1, none, _, rfl, gX3_removeShot_X3_record, rfl, rfl, rfl, ⟨rfl, by decide, by decide, by decide +kernel⟩, by decide, by decide⟩
theorem kcX3_removeShot_94 : fCv wsX3_removeShot RX3 94 0 yX0_deleteShot wsX0_deleteShot rmX3_removeShot rmX0_deleteShot 1 := ⟨(RX0, TX0, 7), cX0_deleteShot, 4, none, _, rfl, gX3_removeShot_X0_deleteShot, rfl, rfl, rfl, ⟨rfl, by decide, by decide, by decide +kernel⟩, by decide, by decide⟩
theorem kfX3_removeShot_91 : fFl wsX3_removeShot RX3 91 0 3 := ⟨(RX0, TX0, 7), rfl, by decide, by decide +kernel, by decide +kernel, rfl, fun _ => ⟨tyX0, tyX0_ok, nmX0⟩⟩
theorem kcX3_setSpeed_34 : fCs wsX3_setSpeed RX3 34 yX3_isBetween wsX3_isBetween rmX3_setSpeed rmX3_isBetween 3 := ⟨cX3_isBetween, 3, (some .boolean), _, gX3_setSpeed_X3_isBetween, rfl, rfl, rfl, ⟨rfl, by decide, by decide, by decide +kernel⟩, by decide, by decide⟩
theorem kcX3_setSpeed_46 : fCv wsX3_setSpeed RX3 46 3 yX3_record wsX3_record rmX3_setSpeed rmX3_record 0 := ⟨(RX3, TX3, 5), cX3_record, 1, none, _, rfl, gX3_setSpeed_X3_record, rfl, rfl, rfl, ⟨rfl, by decide, by decide, by decide +kernel⟩, by decide, by decide⟩
theorem kfX3_setSpeed_10 : fFl wsX3_setSpeed RX3 10 3 0 := ⟨(RX3, TX3, 5), rfl, by decide, by decide +kernel, by decide +kernel, rfl, fun _ => ⟨tyX3, tyX3_ok, nmX3⟩⟩
theorem kfX3_setSpeed_97 : fFl wsX3_setSpeed RX3 97 0 4 := ⟨(RX0, TX0, 7), rfl, by decide, by decide +kernel, by decide +kernel, rfl, fun _ => ⟨tyX0, tyX0_ok, nmX0⟩⟩
theorem kcX3_append_34 : fCs wsX3_append RX3 34 yX3_isBetween wsX3_isBetween rmX3_append rmX3_isBetween 3 := ⟨cX3_isBetween, 3, (some .boolean), _, gX3_append_X3_isBetween, rfl, rfl, rfl, ⟨rfl, by decide, by decide, by decide +kernel⟩, by decide, by decide⟩
theorem kfX3_append_30 : fFl wsX3_append RX3 30 3 4 := ⟨(RX3, TX3, 5), rfl, by decide, by decide +kernel, by decide +kernel, rfl, fun _ => ⟨tyX3, tyX3_ok, nmX3⟩⟩
theorem kfX3_append_100 : fFl wsX3_append RX3 100 1 1 := ⟨(RX1, TX1, 5), rfl, by decide, by decide +kernel, by decide +kernel, rfl, fun _ => ⟨tyX1, tyX1_ok, nmX1⟩⟩
theorem kfX3_append_103 : fFl wsX3_append RX3 103 1 0 := ⟨(RX1, TX1, 5), rfl, by decide, by decide +kernel, by decide +kernel, rfl, fun _ => ⟨tyX1, tyX1_ok, nmX1⟩⟩
theorem kfX3_load_16 : fFl wsX3_load RX3 16 3 1 := ⟨(RX3, TX3, 5), rfl, by decide, by decide +kernel, by decide +kernel, rfl, fun _ => ⟨tyX3, tyX3_ok, nmX3⟩⟩
theorem kfX3_load_10 : fFl wsX3_load RX3 10 3 0 := ⟨(RX3, TX3, 5), rfl, by decide, by decide +kernel, by decide +kernel, rfl, fun _ => ⟨tyX3, tyX3_ok, nmX3⟩⟩
theorem kcX3_load_107 : fCv wsX3_load RX3 107 0 yX0_copyFrom wsX0_copyFrom rmX3_load rmX0_copyFrom 1 := ⟨(RX0, TX0, 7), cX0_copyFrom, 3, none, _, rfl, gX3_load_X0_copyFrom, rfl, rfl, rfl, ⟨rfl, by decide, by decide, by decide +kernel⟩, by decide, by decide⟩
theorem kfX3_load_30 : fFl wsX3_load RX3 30 3 4 := ⟨(RX3, TX3, 5), rfl, by decide, by decide +kernel, by decide +kernel, rfl, fun _ => ⟨tyX3, tyX3_ok, nmX3⟩⟩
theorem kcX3_load_111 : fCv wsX3_load RX3 111 1 yX1_readInto wsX1_readInto rmX3_load rmX1_readInto 1 := ⟨(RX1, TX1, 5), cX1_readInto, 3, (some .int), _, rfl, gX3_load_X1_readInto, rfl, rfl, rfl, ⟨rfl, by decide, by decide, by decide +kernel⟩, by decide, by decide⟩
theorem kcX3_load_46 : fCv wsX3_load RX3 46 3 yX3_record wsX3_record rmX3_load rmX3_record 0 := ⟨(RX3, TX3, 5), cX3_record, 1, none, _, rfl, gX3_load_X3_record, rfl, rfl, rfl, ⟨rfl, by decide, by decide, by decide +kernel⟩, by decide, by decide⟩
theorem kfX3_load_100 : fFl wsX3_load RX3 100 1 1 := ⟨(RX1, TX1, 5), rfl, by decide, by decide +kernel, by decide +kernel, rfl, fun _ => ⟨tyX1, tyX1_ok, nmX1⟩⟩
theorem kcX3_put_115 : fCv wsX3_put RX3 115 3 yX3_isPossiblePlace wsX3_isPossiblePlace rmX3_put rmX3_isPossiblePlace 3 := ⟨(RX3, TX3, 5), cX3_isPossiblePlace, 4, (some .boolean), _, rfl, gX3_put_X3_isPossiblePlace, rfl, rfl, rfl, ⟨rfl, by decide, by decide, by decide +kernel⟩, by decide, by decide⟩
theorem kfX3_put_10 : fFl wsX3_put RX3 10 3 0 := ⟨(RX3, TX3, 5), rfl, by decide, by decide +kernel, by decide +kernel, rfl, fun _ => ⟨tyX3, tyX3_ok, nmX3⟩⟩
theorem kfX3_put_64 : fFl wsX3_put RX3 64 0 0 := ⟨(RX0, TX0, 7), rfl, by decide, by decide +kernel, by decide +kernel, rfl, fun _ => ⟨tyX0, tyX0_ok, nmX0⟩⟩
theorem kfX3_put_118 : fFl wsX3_put RX3 118 2 2 := ⟨(RX2, TX2, 9), rfl, by decide, by decide +kernel, by decide +kernel, rfl, fun _ => ⟨tyX2, tyX2_ok, nmX2⟩⟩
theorem kcX3_put_121 : fCv wsX3_put RX3 121 0 yX0_isFree wsX0_isFree rmX3_put rmX0_isFree 4 := ⟨(RX0, TX0, 7), cX0_isFree, 6, (some .boolean), _, rfl, gX3_put_X0_isFree, rfl, rfl, rfl, ⟨rfl, by decide, by decide, by decide +kernel⟩, by decide, by decide⟩
theorem kcX3_put_46 : fCv wsX3_put RX3 46 3 yX3_record wsX3_record rmX3_put rmX3_record 0 := ⟨(RX3, TX3, 5), cX3_record, 1, none, _, rfl, gX3_put_X3_record, rfl, rfl, rfl, ⟨rfl, by decide, by decide, by decide +kernel⟩, by decide, by decide⟩
theorem kcX3_put_125 : fCv wsX3_put RX3 125 2 yX2_putAt wsX2_putAt rmX3_put rmX2_putAt 2 := ⟨(RX2, TX2, 9), cX2_putAt, 3, none, _, rfl, gX3_put_X2_putAt, rfl, rfl, rfl, ⟨rfl, by decide, by decide, by decide +kernel⟩, by decide, by decide⟩
theorem kcX3_put_128 : fCv wsX3_put RX3 128 0 yX0_countPut wsX0_countPut rmX3_put rmX0_countPut 0 := ⟨(RX0, TX0, 7), cX0_countPut, 3, (some .int), _, rfl, gX3_put_X0_countPut, rfl, rfl, rfl, ⟨rfl, by decide, by decide, by decide +kernel⟩, by decide, by decide⟩
theorem kfX3_take_10 : fFl wsX3_take RX3 10 3 0 := ⟨(RX3, TX3, 5), rfl, by decide, by decide +kernel, by decide +kernel, rfl, fun _ => ⟨tyX3, tyX3_ok, nmX3⟩⟩
theorem kcX3_take_56 : fCv wsX3_take RX3 56 0 yX0_hasWord wsX0_hasWord rmX3_take rmX0_hasWord 1 := ⟨(RX0, TX0, 7), cX0_hasWord, 2, (some .boolean), _, rfl, gX3_take_X0_hasWord, rfl, rfl, rfl, ⟨rfl, by decide, by decide, by decide +kernel⟩, by decide, by decide⟩
theorem kfX3_take_64 : fFl wsX3_take RX3 64 0 0 := ⟨(RX0, TX0, 7), rfl, by decide, by decide +kernel, by decide +kernel, rfl, fun _ => ⟨tyX0, tyX0_ok, nmX0⟩⟩
theorem kfX3_take_78 : fFl wsX3_take RX3 78 2 6 := ⟨(RX2, TX2, 9), rfl, by decide, by decide +kernel, by decide +kernel, rfl, fun _ => ⟨tyX2, tyX2_ok, nmX2⟩⟩
theorem kcX3_take_46 : fCv wsX3_take RX3 46 3 yX3_record wsX3_record rmX3_take rmX3_record 0 := ⟨(RX3, TX3, 5), cX3_record, 1, none, _, rfl, gX3_take_X3_record, rfl, rfl, rfl, ⟨rfl, by decide, by decide, by decide +kernel⟩, by decide, by decide⟩
theorem kcX3_take_128 : fCv wsX3_take RX3 128 0 yX0_countPut wsX0_countPut rmX3_take rmX0_countPut 0 := ⟨(RX0, TX0, 7), cX0_countPut, 3, (some .int), _, rfl, gX3_take_X0_countPut, rfl, rfl, rfl, ⟨rfl, by decide, by decide, by decide +kernel⟩, by decide, by decide⟩
theorem kcX3_putAll_46 : fCv wsX3_putAll RX3 46 3 yX3_record wsX3_record rmX3_putAll rmX3_record 0 := ⟨(RX3, TX3, 5), cX3_record, 1, none, _, rfl, gX3_putAll_X3_record, rfl, rfl, rfl, ⟨rfl, by decide, by decide, by decide +kernel⟩, by decide, by decide⟩
theorem kfX3_putAll_10 : fFl wsX3_putAll RX3 10 3 0 := ⟨(RX3, TX3, 5), rfl, by decide, by decide +kernel, by decide +kernel, rfl, fun _ => ⟨tyX3, tyX3_ok, nmX3⟩⟩
theorem kcX3_putAll_132 : fCv wsX3_putAll RX3 132 0 yX0_takeAllWords wsX0_takeAllWords rmX3_putAll rmX0_takeAllWords 0 := ⟨(RX0, TX0, 7), cX0_takeAllWords, 2, none, _, rfl, gX3_putAll_X0_takeAllWords, rfl, rfl, rfl, ⟨rfl, by decide, by decide, by decide +kernel⟩, by decide, by decide⟩
theorem kcX3_putAll_135 : fCv wsX3_putAll RX3 135 0 yX0_sortForPutting wsX0_sortForPutting rmX3_putAll rmX0_sortForPutting 0 := ⟨(RX0, TX0, 7), cX0_sortForPutting, 3, none, _, rfl, gX3_putAll_X0_sortForPutting, rfl, rfl, rfl, ⟨rfl, by decide, by decide, by decide +kernel⟩, by decide, by decide⟩
theorem kfX3_putAll_53 : fFl wsX3_putAll RX3 53 0 1 := ⟨(RX0, TX0, 7), rfl, by decide, by decide +kernel, by decide +kernel, rfl, fun _ => ⟨tyX0, tyX0_ok, nmX0⟩⟩
theorem kfX3_putAll_138 : fFl wsX3_putAll RX3 138 0 6 := ⟨(RX0, TX0, 7), rfl, by decide, by decide +kernel, by decide +kernel, rfl, fun _ => ⟨tyX0, tyX0_ok, nmX0⟩⟩
theorem kcX3_putAll_141 : fCv wsX3_putAll RX3 141 0 yX0_putAtFirstPlace wsX0_putAtFirstPlace rmX3_putAll rmX0_putAtFirstPlace 1 := ⟨(RX0, TX0, 7), cX0_putAtFirstPlace, 8, none, _, rfl, gX3_putAll_X0_putAtFirstPlace, rfl, rfl, rfl, ⟨rfl, by decide, by decide, by decide +kernel⟩, by decide, by decide⟩
theorem kcX3_putAll_128 : fCv wsX3_putAll RX3 128 0 yX0_countPut wsX0_countPut rmX3_putAll rmX0_countPut 0 := ⟨(RX0, TX0, 7), cX0_countPut, 3, (some .int), _, rfl, gX3_putAll_X0_countPut, rfl, rfl, rfl, ⟨rfl, by decide, by decide, by decide +kernel⟩, by decide, by decide⟩
theorem kfX3_undo_23 : fFl wsX3_undo RX3 23 3 3 := ⟨(RX3, TX3, 5), rfl, by decide, by decide +kernel, by decide +kernel, rfl, fun _ => ⟨tyX3, tyX3_ok, nmX3⟩⟩
theorem kfX3_undo_10 : fFl wsX3_undo RX3 10 3 0 := ⟨(RX3, TX3, 5), rfl, by decide, by decide +kernel, by decide +kernel, rfl, fun _ => ⟨tyX3, tyX3_ok, nmX3⟩⟩
theorem kfX3_undo_19 : fFl wsX3_undo RX3 19 3 2 := ⟨(RX3, TX3, 5), rfl, by decide, by decide +kernel, by decide +kernel, rfl, fun _ => ⟨tyX3, tyX3_ok, nmX3⟩⟩
theorem kcX3_undo_107 : fCv wsX3_undo RX3 107 0 yX0_copyFrom wsX0_copyFrom rmX3_undo rmX0_copyFrom 1 := ⟨(RX0, TX0, 7), cX0_copyFrom, 3, none, _, rfl, gX3_undo_X0_copyFrom, rfl, rfl, rfl, ⟨rfl, by decide, by decide, by decide +kernel⟩, by decide, by decide⟩
theorem kfX3_count_10 : fFl wsX3_count RX3 10 3 0 := ⟨(RX3, TX3, 5), rfl, by decide, by decide +kernel, by decide +kernel, rfl, fun _ => ⟨tyX3, tyX3_ok, nmX3⟩⟩
theorem kfX3_count_53 : fFl wsX3_count RX3 53 0 1 := ⟨(RX0, TX0, 7), rfl, by decide, by decide +kernel, by decide +kernel, rfl, fun _ => ⟨tyX0, tyX0_ok, nmX0⟩⟩
theorem kcX3_count_128 : fCv wsX3_count RX3 128 0 yX0_countPut wsX0_countPut rmX3_count rmX0_countPut 0 := ⟨(RX0, TX0, 7), cX0_countPut, 3, (some .int), _, rfl, gX3_count_X0_countPut, rfl, rfl, rfl, ⟨rfl, by decide, by decide, by decide +kernel⟩, by decide, by decide⟩
theorem kfX3_count_91 : fFl wsX3_count RX3 91 0 3 := ⟨(RX0, TX0, 7), rfl, by decide, by decide +kernel, by decide +kernel, rfl, fun _ => ⟨tyX0, tyX0_ok, nmX0⟩⟩
theorem kfX3_count_97 : fFl wsX3_count RX3 97 0 4 := ⟨(RX0, TX0, 7), rfl, by decide, by decide +kernel, by decide +kernel, rfl, fun _ => ⟨tyX0, tyX0_ok, nmX0⟩⟩
theorem kcX3_count_144 : fCv wsX3_count RX3 144 0 yX0_countMeetingPairs wsX0_countMeetingPairs rmX3_count rmX0_countMeetingPairs 0 := ⟨(RX0, TX0, 7), cX0_countMeetingPairs, 4, (some .int), _, rfl, gX3_count_X0_countMeetingPairs, rfl, rfl, rfl, ⟨rfl, by decide, by decide, by decide +kernel⟩, by decide, by decide⟩
theorem kfX3_count_23 : fFl wsX3_count RX3 23 3 3 := ⟨(RX3, TX3, 5), rfl, by decide, by decide +kernel, by decide +kernel, rfl, fun _ => ⟨tyX3, tyX3_ok, nmX3⟩⟩
theorem kfX3_count_30 : fFl wsX3_count RX3 30 3 4 := ⟨(RX3, TX3, 5), rfl, by decide, by decide +kernel, by decide +kernel, rfl, fun _ => ⟨tyX3, tyX3_ok, nmX3⟩⟩
theorem kfX3_count_100 : fFl wsX3_count RX3 100 1 1 := ⟨(RX1, TX1, 5), rfl, by decide, by decide +kernel, by decide +kernel, rfl, fun _ => ⟨tyX1, tyX1_ok, nmX1⟩⟩
theorem kfX3_word_10 : fFl wsX3_word RX3 10 3 0 := ⟨(RX3, TX3, 5), rfl, by decide, by decide +kernel, by decide +kernel, rfl, fun _ => ⟨tyX3, tyX3_ok, nmX3⟩⟩
theorem kcX3_word_56 : fCv wsX3_word RX3 56 0 yX0_hasWord wsX0_hasWord rmX3_word rmX0_hasWord 1 := ⟨(RX0, TX0, 7), cX0_hasWord, 2, (some .boolean), _, rfl, gX3_word_X0_hasWord, rfl, rfl, rfl, ⟨rfl, by decide, by decide, by decide +kernel⟩, by decide, by decide⟩
theorem kcX3_word_34 : fCs wsX3_word RX3 34 yX3_isBetween wsX3_isBetween rmX3_word rmX3_isBetween 3 := ⟨cX3_isBetween, 3, (some .boolean), _, gX3_word_X3_isBetween, rfl, rfl, rfl, ⟨rfl, by decide, by decide, by decide +kernel⟩, by decide, by decide⟩
theorem kfX3_word_64 : fFl wsX3_word RX3 64 0 0 := ⟨(RX0, TX0, 7), rfl, by decide, by decide +kernel, by decide +kernel, rfl, fun _ => ⟨tyX0, tyX0_ok, nmX0⟩⟩
theorem kfX3_word_147 : fFl wsX3_word RX3 147 2 1 := ⟨(RX2, TX2, 9), rfl, by decide, by decide +kernel, by decide +kernel, rfl, fun _ => ⟨tyX2, tyX2_ok, nmX2⟩⟩
theorem kcX3_word_68 : fCv wsX3_word RX3 68 2 yX2_property wsX2_property rmX3_word rmX2_property 1 := ⟨(RX2, TX2, 9), cX2_property, 2, (some .int), _, rfl, gX3_word_X2_property, rfl, rfl, rfl, ⟨rfl, by decide, by decide, by decide +kernel⟩, by decide, by decide⟩
theorem kfX3_word_78 : fFl wsX3_word RX3 78 2 6 := ⟨(RX2, TX2, 9), rfl, by decide, by decide +kernel, by decide +kernel, rfl, fun _ => ⟨tyX2, tyX2_ok, nmX2⟩⟩
theorem kfX3_word_148 : fFl wsX3_word RX3 148 2 7 := ⟨(RX2, TX2, 9), rfl, by decide, by decide +kernel, by decide +kernel, rfl, fun _ => ⟨tyX2, tyX2_ok, nmX2⟩⟩
theorem kfX3_word_151 : fFl wsX3_word RX3 151 2 8 := ⟨(RX2, TX2, 9), rfl, by decide, by decide +kernel, by decide +kernel, rfl, fun _ => ⟨tyX2, tyX2_ok, nmX2⟩⟩
theorem kcX3_word_154 : fCv wsX3_word RX3 154 0 yX0_goneFrom wsX0_goneFrom rmX3_word rmX0_goneFrom 1 := ⟨(RX0, TX0, 7), cX0_goneFrom, 4, (some .int), _, rfl, gX3_word_X0_goneFrom, rfl, rfl, rfl, ⟨rfl, by decide, by decide, by decide +kernel⟩, by decide, by decide⟩
theorem kfX3_letter_10 : fFl wsX3_letter RX3 10 3 0 := ⟨(RX3, TX3, 5), rfl, by decide, by decide +kernel, by decide +kernel, rfl, fun _ => ⟨tyX3, tyX3_ok, nmX3⟩⟩
theorem kcX3_letter_56 : fCv wsX3_letter RX3 56 0 yX0_hasWord wsX0_hasWord rmX3_letter rmX0_hasWord 1 := ⟨(RX0, TX0, 7), cX0_hasWord, 2, (some .boolean), _, rfl, gX3_letter_X0_hasWord, rfl, rfl, rfl, ⟨rfl, by decide, by decide, by decide +kernel⟩, by decide, by decide⟩
theorem kfX3_letter_64 : fFl wsX3_letter RX3 64 0 0 := ⟨(RX0, TX0, 7), rfl, by decide, by decide +kernel, by decide +kernel, rfl, fun _ => ⟨tyX0, tyX0_ok, nmX0⟩⟩
theorem kfX3_letter_147 : fFl wsX3_letter RX3 147 2 1 := ⟨(RX2, TX2, 9), rfl, by decide, by decide +kernel, by decide +kernel, rfl, fun _ => ⟨tyX2, tyX2_ok, nmX2⟩⟩
theorem kfX3_letter_158 : fFl wsX3_letter RX3 158 2 0 := ⟨(RX2, TX2, 9), rfl, by decide, by decide +kernel, by decide +kernel, rfl, fun _ => ⟨tyX2, tyX2_ok, nmX2⟩⟩
theorem kfX3_shot_10 : fFl wsX3_shot RX3 10 3 0 := ⟨(RX3, TX3, 5), rfl, by decide, by decide +kernel, by decide +kernel, rfl, fun _ => ⟨tyX3, tyX3_ok, nmX3⟩⟩
theorem kfX3_shot_91 : fFl wsX3_shot RX3 91 0 3 := ⟨(RX0, TX0, 7), rfl, by decide, by decide +kernel, by decide +kernel, rfl, fun _ => ⟨tyX0, tyX0_ok, nmX0⟩⟩
theorem kfX3_shot_161 : fFl wsX3_shot RX3 161 0 2 := ⟨(RX0, TX0, 7), rfl, by decide, by decide +kernel, by decide +kernel, rfl, fun _ => ⟨tyX0, tyX0_ok, nmX0⟩⟩
theorem kfX3_where_10 : fFl wsX3_where RX3 10 3 0 := ⟨(RX3, TX3, 5), rfl, by decide, by decide +kernel, by decide +kernel, rfl, fun _ => ⟨tyX3, tyX3_ok, nmX3⟩⟩
theorem kcX3_where_56 : fCv wsX3_where RX3 56 0 yX0_hasWord wsX0_hasWord rmX3_where rmX0_hasWord 1 := ⟨(RX0, TX0, 7), cX0_hasWord, 2, (some .boolean), _, rfl, gX3_where_X0_hasWord, rfl, rfl, rfl, ⟨rfl, by decide, by decide, by decide +kernel⟩, by decide, by decide⟩
theorem kcX3_where_164 : fCs wsX3_where RX3 164 yX3_isAskedFrame wsX3_isAskedFrame rmX3_where rmX3_isAskedFrame 1 := ⟨cX3_isAskedFrame, 1, (some .boolean), _, gX3_where_X3_isAskedFrame, rfl, rfl, rfl, ⟨rfl, by decide, by decide, by decide +kernel⟩, by decide, by decide⟩
theorem kcX3_where_34 : fCs wsX3_where RX3 34 yX3_isBetween wsX3_isBetween rmX3_where rmX3_isBetween 3 := ⟨cX3_isBetween, 3, (some .boolean), _, gX3_where_X3_isBetween, rfl, rfl, rfl, ⟨rfl, by decide, by decide, by decide +kernel⟩, by decide, by decide⟩
theorem kfX3_where_64 : fFl wsX3_where RX3 64 0 0 := ⟨(RX0, TX0, 7), rfl, by decide, by decide +kernel, by decide +kernel, rfl, fun _ => ⟨tyX0, tyX0_ok, nmX0⟩⟩
theorem kcX3_where_167 : fCv wsX3_where RX3 167 0 yX0_isVisible wsX0_isVisible rmX3_where rmX0_isVisible 2 := ⟨(RX0, TX0, 7), cX0_isVisible, 3, (some .boolean), _, rfl, gX3_where_X0_isVisible, rfl, rfl, rfl, ⟨rfl, by decide, by decide, by decide +kernel⟩, by decide, by decide⟩
theorem kcX3_where_171 : fCv wsX3_where RX3 171 0 yX0_rowOf wsX0_rowOf rmX3_where rmX0_rowOf 2 := ⟨(RX0, TX0, 7), cX0_rowOf, 3, (some .int), _, rfl, gX3_where_X0_rowOf, rfl, rfl, rfl, ⟨rfl, by decide, by decide, by decide +kernel⟩, by decide, by decide⟩
theorem kcX3_where_175 : fCv wsX3_where RX3 175 0 yX0_columnOf wsX0_columnOf rmX3_where rmX0_columnOf 2 := ⟨(RX0, TX0, 7), cX0_columnOf, 3, (some .int), _, rfl, gX3_where_X0_columnOf, rfl, rfl, rfl, ⟨rfl, by decide, by decide, by decide +kernel⟩, by decide, by decide⟩
theorem kcX3_onScreen_164 : fCs wsX3_onScreen RX3 164 yX3_isAskedFrame wsX3_isAskedFrame rmX3_onScreen rmX3_isAskedFrame 1 := ⟨cX3_isAskedFrame, 1, (some .boolean), _, gX3_onScreen_X3_isAskedFrame, rfl, rfl, rfl, ⟨rfl, by decide, by decide, by decide +kernel⟩, by decide, by decide⟩
theorem kfX3_onScreen_10 : fFl wsX3_onScreen RX3 10 3 0 := ⟨(RX3, TX3, 5), rfl, by decide, by decide +kernel, by decide +kernel, rfl, fun _ => ⟨tyX3, tyX3_ok, nmX3⟩⟩
theorem kcX3_onScreen_182 : fCv wsX3_onScreen RX3 182 0 yX0_visibleSet wsX0_visibleSet rmX3_onScreen rmX0_visibleSet 1 := ⟨(RX0, TX0, 7), cX0_visibleSet, 4, (some .int), _, rfl, gX3_onScreen_X0_visibleSet, rfl, rfl, rfl, ⟨rfl, by decide, by decide, by decide +kernel⟩, by decide, by decide⟩
theorem kfX3_meeting_10 : fFl wsX3_meeting RX3 10 3 0 := ⟨(RX3, TX3, 5), rfl, by decide, by decide +kernel, by decide +kernel, rfl, fun _ => ⟨tyX3, tyX3_ok, nmX3⟩⟩
theorem kcX3_meeting_56 : fCv wsX3_meeting RX3 56 0 yX0_hasWord wsX0_hasWord rmX3_meeting rmX0_hasWord 1 := ⟨(RX0, TX0, 7), cX0_hasWord, 2, (some .boolean), _, rfl, gX3_meeting_X0_hasWord, rfl, rfl, rfl, ⟨rfl, by decide, by decide, by decide +kernel⟩, by decide, by decide⟩
theorem kfX3_meeting_64 : fFl wsX3_meeting RX3 64 0 0 := ⟨(RX0, TX0, 7), rfl, by decide, by decide +kernel, by decide +kernel, rfl, fun _ => ⟨tyX0, tyX0_ok, nmX0⟩⟩
theorem kcX3_meeting_185 : fCv wsX3_meeting RX3 185 0 yX0_firstMeeting wsX0_firstMeeting rmX3_meeting rmX0_firstMeeting 2 := ⟨(RX0, TX0, 7), cX0_firstMeeting, 7, (some .int), _, rfl, gX3_meeting_X0_firstMeeting, rfl, rfl, rfl, ⟨rfl, by decide, by decide, by decide +kernel⟩, by decide, by decide⟩
theorem kcX3_earliest_115 : fCv wsX3_earliest RX3 115 3 yX3_isPossiblePlace wsX3_isPossiblePlace rmX3_earliest rmX3_isPossiblePlace 3 := ⟨(RX3, TX3, 5), cX3_isPossiblePlace, 4, (some .boolean), _, rfl, gX3_earliest_X3_isPossiblePlace, rfl, rfl, rfl, ⟨rfl, by decide, by decide, by decide +kernel⟩, by decide, by decide⟩
theorem kfX3_earliest_10 : fFl wsX3_earliest RX3 10 3 0 := ⟨(RX3, TX3, 5), rfl, by decide, by decide +kernel, by decide +kernel, rfl, fun _ => ⟨tyX3, tyX3_ok, nmX3⟩⟩
theorem kfX3_earliest_64 : fFl wsX3_earliest RX3 64 0 0 := ⟨(RX0, TX0, 7), rfl, by decide, by decide +kernel, by decide +kernel, rfl, fun _ => ⟨tyX0, tyX0_ok, nmX0⟩⟩
theorem kfX3_earliest_118 : fFl wsX3_earliest RX3 118 2 2 := ⟨(RX2, TX2, 9), rfl, by decide, by decide +kernel, by decide +kernel, rfl, fun _ => ⟨tyX2, tyX2_ok, nmX2⟩⟩
theorem kcX3_earliest_121 : fCv wsX3_earliest RX3 121 0 yX0_isFree wsX0_isFree rmX3_earliest rmX0_isFree 4 := ⟨(RX0, TX0, 7), cX0_isFree, 6, (some .boolean), _, rfl, gX3_earliest_X0_isFree, rfl, rfl, rfl, ⟨rfl, by decide, by decide, by decide +kernel⟩, by decide, by decide⟩
theorem kcX3_filled_164 : fCs wsX3_filled RX3 164 yX3_isAskedFrame wsX3_isAskedFrame rmX3_filled rmX3_isAskedFrame 1 := ⟨cX3_isAskedFrame, 1, (some .boolean), _, gX3_filled_X3_isAskedFrame, rfl, rfl, rfl, ⟨rfl, by decide, by decide, by decide +kernel⟩, by decide, by decide⟩
theorem kfX3_filled_10 : fFl wsX3_filled RX3 10 3 0 := ⟨(RX3, TX3, 5), rfl, by decide, by decide +kernel, by decide +kernel, rfl, fun _ => ⟨tyX3, tyX3_ok, nmX3⟩⟩
theorem kcX3_filled_192 : fCv wsX3_filled RX3 192 0 yX0_cellsInRow wsX0_cellsInRow rmX3_filled rmX0_cellsInRow 2 := ⟨(RX0, TX0, 7), cX0_cellsInRow, 10, (some .long), _, rfl, gX3_filled_X0_cellsInRow, rfl, rfl, rfl, ⟨rfl, by decide, by decide, by decide +kernel⟩, by decide, by decide⟩
theorem kfX3_record_23 : fFl wsX3_record RX3 23 3 3 := ⟨(RX3, TX3, 5), rfl, by decide, by decide +kernel, by decide +kernel, rfl, fun _ => ⟨tyX3, tyX3_ok, nmX3⟩⟩
theorem kcX3_record_202 : fCv wsX3_record RX3 202 3 yX3_dropOldestState wsX3_dropOldestState rmX3_record rmX3_dropOldestState 0 := ⟨(RX3, TX3, 5), cX3_dropOldestState, 3, none, _, rfl, gX3_record_X3_dropOldestState, rfl, rfl, rfl, ⟨rfl, by decide, by decide, by decide +kernel⟩, by decide, by decide⟩
theorem kfX3_record_19 : fFl wsX3_record RX3 19 3 2 := ⟨(RX3, TX3, 5), rfl, by decide, by decide +kernel, by decide +kernel, rfl, fun _ => ⟨tyX3, tyX3_ok, nmX3⟩⟩
theorem kfX3_record_10 : fFl wsX3_record RX3 10 3 0 := ⟨(RX3, TX3, 5), rfl, by decide, by decide +kernel, by decide +kernel, rfl, fun _ => ⟨tyX3, tyX3_ok, nmX3⟩⟩
theorem kcX3_record_107 : fCv wsX3_record RX3 107 0 yX0_copyFrom wsX0_copyFrom rmX3_record rmX0_copyFrom 1 := ⟨(RX0, TX0, 7), cX0_copyFrom, 3, none, _, rfl, gX3_record_X0_copyFrom, rfl, rfl, rfl, ⟨rfl, by decide, by decide, by decide +kernel⟩, by decide, by decide⟩
theorem kfX3_dropOldestState_19 : fFl wsX3_dropOldestState RX3 19 3 2 := ⟨(RX3, TX3, 5), rfl, by decide, by decide +kernel, by decide +kernel, rfl, fun _ => ⟨tyX3, tyX3_ok, nmX3⟩⟩
theorem kfX3_dropOldestState_23 : fFl wsX3_dropOldestState RX3 23 3 3 := ⟨(RX3, TX3, 5), rfl, by decide, by decide +kernel, by decide +kernel, rfl, fun _ => ⟨tyX3, tyX3_ok, nmX3⟩⟩
theorem kfX3_isPossiblePlace_10 : fFl wsX3_isPossiblePlace RX3 10 3 0 := ⟨(RX3, TX3, 5), rfl, by decide, by decide +kernel, by decide +kernel, rfl, fun _ => ⟨tyX3, tyX3_ok, nmX3⟩⟩
theorem kcX3_isPossiblePlace_56 : fCv wsX3_isPossiblePlace RX3 56 0 yX0_hasWord wsX0_hasWord rmX3_isPossiblePlace rmX0_hasWord 1 := ⟨(RX0, TX0, 7), cX0_hasWord, 2, (some .boolean), _, rfl, gX3_isPossiblePlace_X0_hasWord, rfl, rfl, rfl, ⟨rfl, by decide, by decide, by decide +kernel⟩, by decide, by decide⟩
theorem kcX3_isPossiblePlace_34 : fCs wsX3_isPossiblePlace RX3 34 yX3_isBetween wsX3_isBetween rmX3_isPossiblePlace rmX3_isBetween 3 := ⟨cX3_isBetween, 3, (some .boolean), _, gX3_isPossiblePlace_X3_isBetween, rfl, rfl, rfl, ⟨rfl, by decide, by decide, by decide +kernel⟩, by decide, by decide⟩
theorem kfX3_isPossiblePlace_64 : fFl wsX3_isPossiblePlace RX3 64 0 0 := ⟨(RX0, TX0, 7), rfl, by decide, by decide +kernel, by decide +kernel, rfl, fun _ => ⟨tyX0, tyX0_ok, nmX0⟩⟩
theorem kcX3_isPossiblePlace_205 : fCv wsX3_isPossiblePlace RX3 205 2 yX2_lastColumn wsX2_lastColumn rmX3_isPossiblePlace rmX2_lastColumn 0 := ⟨(RX2, TX2, 9), cX2_lastColumn, 1, (some .int), _, rfl, gX3_isPossiblePlace_X2_lastColumn, rfl, rfl, rfl, ⟨rfl, by decide, by decide, by decide +kernel⟩, by decide, by decide⟩
theorem kcX3_isAskedFrame_34 : fCs wsX3_isAskedFrame RX3 34 yX3_isBetween wsX3_isBetween rmX3_isAskedFrame rmX3_isBetween 3 := ⟨cX3_isBetween, 3, (some .boolean), _, gX3_isAskedFrame_X3_isBetween, rfl, rfl, rfl, ⟨rfl, by decide, by decide, by decide +kernel⟩, by decide, by decide⟩
theorem kcX3_isAllowed_34 : fCs wsX3_isAllowed RX3 34 yX3_isBetween wsX3_isBetween rmX3_isAllowed rmX3_isBetween 3 := ⟨cX3_isBetween, 3, (some .boolean), _, gX3_isAllowed_X3_isBetween, rfl, rfl, rfl, ⟨rfl, by decide, by decide, by decide +kernel⟩, by decide, by decide⟩
