/-! LAW: its words are the tables' -/
set_option maxRecDepth 20000 in
theorem xin_X3 : ∀ w ∈ wsX30, w ∈ lw_tbl := fun w h => (goodIn_p wsX30 [] rfl (by decide +kernel) w h).1
set_option maxRecDepth 20000 in
theorem xin_X4 : ∀ w ∈ wsX40, w ∈ lw_tbl := fun w h => (goodIn_p wsX40 [] rfl (by decide +kernel) w h).1
set_option maxRecDepth 20000 in
theorem xin_X0 : ∀ w ∈ wsX00, w ∈ lw_tbl := fun w h => (goodIn_p wsX00 [] rfl (by decide +kernel) w h).1
set_option maxRecDepth 20000 in
theorem xin_X1 : ∀ w ∈ wsX10, w ∈ lw_tbl := fun w h => (goodIn_p wsX10 [] rfl (by decide +kernel) w h).1
set_option maxRecDepth 20000 in
theorem xin_X2 : ∀ w ∈ wsX20, w ∈ lw_tbl := fun w h => (goodIn_p wsX20 [] rfl (by decide +kernel) w h).1
theorem wsL_law_in : ∀ w ∈ wsL_law, w ∈ lw_tbl := by
  intro w h
  unfold wsL_law at h
  refine (List.mem_append.mp h).elim (fun h => ?_) (fun h => by cases h)
  refine (List.mem_append.mp h).elim (fun h => ?_) (fun h => xin_X2 w h)
  refine (List.mem_append.mp h).elim (fun h => ?_) (fun h => xin_X1 w h)
  refine (List.mem_append.mp h).elim (fun h => ?_) (fun h => xin_X0 w h)
  refine (List.mem_append.mp h).elim (fun h => ?_) (fun h => xin_X4 w h)
  refine (List.mem_append.mp h).elim (fun h => ?_) (fun h => xin_X3 w h)
  rcases List.mem_append.mp h with h | h
  · exact lin_r1 w h
  rcases List.mem_append.mp h with h | h
  · exact lin_r2 w h
  rcases List.mem_append.mp h with h | h
  · exact lin_r3 w h
  rcases List.mem_append.mp h with h | h
  · exact lin_r4 w h
  rcases List.mem_append.mp h with h | h
  · exact lin_r5 w h
  rcases List.mem_append.mp h with h | h
  · exact lin_r6 w h
  rcases List.mem_append.mp h with h | h
  · exact lin_r7 w h
  rcases List.mem_append.mp h with h | h
  · exact lin_r8 w h
  rcases List.mem_append.mp h with h | h
  · exact lin_r9 w h
  rcases List.mem_append.mp h with h | h
  · exact lin_r10 w h
  rcases List.mem_append.mp h with h | h
  · exact lin_r11 w h
  rcases List.mem_append.mp h with h | h
  · exact lin_r12 w h
  rcases List.mem_append.mp h with h | h
  · exact lin_r13 w h
  rcases List.mem_append.mp h with h | h
  · exact lin_r14 w h
  rcases List.mem_append.mp h with h | h
  · exact lin_r15 w h
  rcases List.mem_append.mp h with h | h
  · exact lin_r16 w h
  rcases List.mem_append.mp h with h | h
  · exact lin_r17 w h
  rcases List.mem_append.mp h with h | h
  · exact lin_r18 w h
  rcases List.mem_append.mp h with h | h
  · exact lin_r19 w h
  rcases List.mem_append.mp h with h | h
  · exact lin_r20 w h
  rcases List.mem_append.mp h with h | h
  · exact lin_r21 w h
  rcases List.mem_append.mp h with h | h
  · exact lin_r22 w h
  rcases List.mem_append.mp h with h | h
  · exact lin_r23 w h
  rcases List.mem_append.mp h with h | h
  · exact lin_r24 w h
  rcases List.mem_append.mp h with h | h
  · exact lin_r25 w h
  rcases List.mem_append.mp h with h | h
  · exact lin_r26 w h
  rcases List.mem_append.mp h with h | h
  · exact lin_r27 w h
  rcases List.mem_append.mp h with h | h
  · exact lin_r28 w h
  rcases List.mem_append.mp h with h | h
  · exact lin_r29 w h
  rcases List.mem_append.mp h with h | h
  · exact lin_r30 w h
  rcases List.mem_append.mp h with h | h
  · exact lin_r31 w h
  exact lin_r32 w h
