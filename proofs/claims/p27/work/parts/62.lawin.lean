/-! LAW: its words are the tables' -/
set_option maxRecDepth 20000 in
theorem lin_r1 : ∀ w ∈ wsL_law_r1, w ∈ lw_tbl := fun w h => (goodIn_p wsL_law_r1 [30, 33, 38] rfl (by decide +kernel) w h).1
set_option maxRecDepth 20000 in
theorem lin_r2 : ∀ w ∈ wsL_law_r2, w ∈ lw_tbl := fun w h => (goodIn_p wsL_law_r2 [45, 125, 441, 444] rfl (by decide +kernel) w h).1
set_option maxRecDepth 20000 in
theorem lin_r3 : ∀ w ∈ wsL_law_r3, w ∈ lw_tbl := fun w h => (goodIn_p wsL_law_r3 [164, 167, 170, 174, 178] rfl (by decide +kernel) w h).1
set_option maxRecDepth 20000 in
theorem lin_r4 : ∀ w ∈ wsL_law_r4, w ∈ lw_tbl := fun w h => (goodIn_p wsL_law_r4 [182, 186, 190] rfl (by decide +kernel) w h).1
set_option maxRecDepth 20000 in
theorem lin_r5 : ∀ w ∈ wsL_law_r5, w ∈ lw_tbl := fun w h => (goodIn_p wsL_law_r5 [198, 448, 425] rfl (by decide +kernel) w h).1
set_option maxRecDepth 20000 in
theorem lin_r6 : ∀ w ∈ wsL_law_r6, w ∈ lw_tbl := fun w h => (goodIn_p wsL_law_r6 [417, 429, 365, 372, 396, 369] rfl (by decide +kernel) w h).1
set_option maxRecDepth 20000 in
theorem lin_r7 : ∀ w ∈ wsL_law_r7, w ∈ lw_tbl := fun w h => (goodIn_p wsL_law_r7 [376, 380, 384, 388, 392, 400] rfl (by decide +kernel) w h).1
set_option maxRecDepth 20000 in
theorem lin_r8 : ∀ w ∈ wsL_law_r8, w ∈ lw_tbl := fun w h => (goodIn_p wsL_law_r8 [404, 408, 412, 433] rfl (by decide +kernel) w h).1
set_option maxRecDepth 20000 in
theorem lin_r9 : ∀ w ∈ wsL_law_r9, w ∈ lw_tbl := fun w h => (goodIn_p wsL_law_r9 [206, 210, 454, 458, 461, 465] rfl (by decide +kernel) w h).1
set_option maxRecDepth 20000 in
theorem lin_r10 : ∀ w ∈ wsL_law_r10, w ∈ lw_tbl := fun w h => (goodIn_p wsL_law_r10 [469, 202, 214, 218, 222, 226] rfl (by decide +kernel) w h).1
set_option maxRecDepth 20000 in
theorem lin_r11 : ∀ w ∈ wsL_law_r11, w ∈ lw_tbl := fun w h => (goodIn_p wsL_law_r11 [230, 473, 477, 234, 481, 485] rfl (by decide +kernel) w h).1
set_option maxRecDepth 20000 in
theorem lin_r12 : ∀ w ∈ wsL_law_r12, w ∈ lw_tbl := fun w h => (goodIn_p wsL_law_r12 [489, 493, 496, 500, 353, 357] rfl (by decide +kernel) w h).1
set_option maxRecDepth 20000 in
theorem lin_r13 : ∀ w ∈ wsL_law_r13, w ∈ lw_tbl := fun w h => (goodIn_p wsL_law_r13 [361, 345, 349, 507, 511] rfl (by decide +kernel) w h).1
set_option maxRecDepth 20000 in
theorem lin_r14 : ∀ w ∈ wsL_law_r14, w ∈ lw_tbl := fun w h => (goodIn_p wsL_law_r14 [514, 518, 524, 528, 533, 537] rfl (by decide +kernel) w h).1
set_option maxRecDepth 20000 in
theorem lin_r15 : ∀ w ∈ wsL_law_r15, w ∈ lw_tbl := fun w h => (goodIn_p wsL_law_r15 [540, 547, 421, 438, 242] rfl (by decide +kernel) w h).1
set_option maxRecDepth 20000 in
theorem lin_r16 : ∀ w ∈ wsL_law_r16, w ∈ lw_tbl := fun w h => (goodIn_p wsL_law_r16 [246, 250, 254, 258, 263] rfl (by decide +kernel) w h).1
set_option maxRecDepth 20000 in
theorem lin_r17 : ∀ w ∈ wsL_law_r17, w ∈ lw_tbl := fun w h => (goodIn_p wsL_law_r17 [267, 271, 277, 281, 284] rfl (by decide +kernel) w h).1
set_option maxRecDepth 20000 in
theorem lin_r18 : ∀ w ∈ wsL_law_r18, w ∈ lw_tbl := fun w h => (goodIn_p wsL_law_r18 [287, 292, 295, 298, 301, 305] rfl (by decide +kernel) w h).1
set_option maxRecDepth 20000 in
theorem lin_r19 : ∀ w ∈ wsL_law_r19, w ∈ lw_tbl := fun w h => (goodIn_p wsL_law_r19 [316, 320, 325, 337] rfl (by decide +kernel) w h).1
set_option maxRecDepth 20000 in
theorem lin_r20 : ∀ w ∈ wsL_law_r20, w ∈ lw_tbl := fun w h => (goodIn_p wsL_law_r20 [238] rfl (by decide +kernel) w h).1
set_option maxRecDepth 20000 in
theorem xin_X3 : ∀ w ∈ wsX30, w ∈ lw_tbl := fun w h => (goodIn_p wsX30 [] rfl (by decide +kernel) w h).1
set_option maxRecDepth 20000 in
theorem xin_X0 : ∀ w ∈ wsX00, w ∈ lw_tbl := fun w h => (goodIn_p wsX00 [] rfl (by decide +kernel) w h).1
set_option maxRecDepth 20000 in
theorem xin_X1 : ∀ w ∈ wsX10, w ∈ lw_tbl := fun w h => (goodIn_p wsX10 [] rfl (by decide +kernel) w h).1
set_option maxRecDepth 20000 in
theorem xin_X2 : ∀ w ∈ wsX20, w ∈ lw_tbl := fun w h => (goodIn_p wsX20 [] rfl (by decide +kernel) w h).1
theorem wsL_law_in : ∀ w ∈ wsL_law, w ∈ lw_tbl := by
  intro w h
  unfold wsL_law at h
  refine (List.mem_append.mp h).elim (fun h => ?_) (fun h => by cases h)
  refine (List.mem_append.mp h).elim (fun h => ?_) (fun h => xin_X2 w h)
  refine (List.mem_append.mp h).elim (fun h => ?_) (fun h => xin_X1 w h)
  refine (List.mem_append.mp h).elim (fun h => ?_) (fun h => xin_X0 w h)
  refine (List.mem_append.mp h).elim (fun h => ?_) (fun h => xin_X3 w h)
  rcases List.mem_append.mp h with h | h
  · exact lin_r1 w h
  rcases List.mem_append.mp h with h | h
  · exact lin_r2 w h
  rcases List.mem_append.mp h with h | h
  · exact lin_r3 w h
  rcases List.mem_append.mp h with h | h
  · exact lin_r4 w h
  rcases List.mem_append.mp h with h | h
  · exact lin_r5 w h
  rcases List.mem_append.mp h with h | h
  · exact lin_r6 w h
  rcases List.mem_append.mp h with h | h
  · exact lin_r7 w h
  rcases List.mem_append.mp h with h | h
  · exact lin_r8 w h
  rcases List.mem_append.mp h with h | h
  · exact lin_r9 w h
  rcases List.mem_append.mp h with h | h
  · exact lin_r10 w h
  rcases List.mem_append.mp h with h | h
  · exact lin_r11 w h
  rcases List.mem_append.mp h with h | h
  · exact lin_r12 w h
  rcases List.mem_append.mp h with h | h
  · exact lin_r13 w h
  rcases List.mem_append.mp h with h | h
  · exact lin_r14 w h
  rcases List.mem_append.mp h with h | h
  · exact lin_r15 w h
  rcases List.mem_append.mp h with h | h
  · exact lin_r16 w h
  rcases List.mem_append.mp h with h | h
  · exact lin_r17 w h
  rcases List.mem_append.mp h with h | h
  · exact lin_r18 w h
  rcases List.mem_append.mp h with h | h
  · exact lin_r19 w h
  exact lin_r20 w h
