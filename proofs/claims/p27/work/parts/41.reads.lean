/-! READS: both sides answer the same -/
theorem sSum_c {g h : Int → Int} {n : Int} (e : ∀ i, 0 ≤ i → i < n → g i = h i) : sSum g n = sSum h n := by
  have key : ∀ k : Nat, (k : Int) ≤ n → sSum g k = sSum h k := by
    intro k
    induction k with
    | zero => intro _; rfl
    | succ k ih =>
      intro hk
      have e1 : sSum g ((k + 1 : Nat) : Int) = _ := sSum_s (g := g) (n := k) (by omega)
      have e2 : sSum h ((k + 1 : Nat) : Int) = _ := sSum_s (g := h) (n := k) (by omega)
      rw [e1, e2, ih (by omega), e k (by omega) (by omega)]
  rcases Int.lt_or_le n 0 with q | q
  · unfold sSum
    rw [show n.toNat = 0 by omega]
    rfl
  · have := key n.toNat (by omega)
    rw [show ((n.toNat : Nat) : Int) = n by omega] at this
    exact this
theorem sPaceF_c {len fi sp len2 fi2 sp2 : Int → Int} {f n : Int} (e : ∀ i, 0 ≤ i → i < n → len i = len2 i ∧ fi i = fi2 i ∧ sp i = sp2 i) : sPaceF len fi sp f n = sPaceF len2 fi2 sp2 f n := by
  have key : ∀ k : Nat, (k : Int) ≤ n → sPaceF len fi sp f k = sPaceF len2 fi2 sp2 f k := by
    intro k
    induction k with
    | zero =>
      intro _
      unfold sPaceF
      rw [show (((0 : Nat) : Int)).toNat = 0 from rfl, List.range_zero, List.foldl_nil, List.foldl_nil]
    | succ k ih =>
      intro hk
      have e1 : sPaceF len fi sp f ((k + 1 : Nat) : Int) = _ := sPaceF_s (len := len) (fi := fi) (sp := sp) (f := f) (n := k) (by omega)
      have e2 : sPaceF len2 fi2 sp2 f ((k + 1 : Nat) : Int) = _ := sPaceF_s (len := len2) (fi := fi2) (sp := sp2) (f := f) (n := k) (by omega)
      have e3 := e k (by omega) (by omega)
      rw [e1, e2, ih (by omega), e3.1, e3.2.1, e3.2.2]
  rcases Int.lt_or_le n 0 with q | q
  · unfold sPaceF
    rw [show n.toNat = 0 by omega, List.range_zero, List.foldl_nil, List.foldl_nil]
  · have := key n.toNat (by omega)
    rw [show ((n.toNat : Nat) : Int) = n by omega] at this
    exact this
theorem Rel_pl {I : fM} {P : fN} {sc : Nat} {s : Int → Int} {w : Int} (h : Rel I P sc s) (h0 : 0 ≤ w) (h1 : w < s 0) : wPl (I (P (sc + 1) w)) (fun q => s (13 + 19 * w + q)) := by
  have k := h.2.2.2.2 w h0 h1
  exact ⟨k.1, k.2.1, k.2.2.1, k.2.2.2.1, k.2.2.2.2.1, k.2.2.2.2.2.1⟩
theorem Rel_le {I : fM} {P : fN} {sc : Nat} {s : Int → Int} {w j : Int} (h : Rel I P sc s) (h0 : 0 ≤ w) (h1 : w < s 0) (j0 : 0 ≤ j) (j1 : j < s (13 + 19 * w + 6)) : I (P (sc + 1) w + 1) j = s (13 + 19 * w + (7 + j)) := (h.2.2.2.2 w h0 h1).2.2.2.2.2.2 j j0 j1
theorem Rel_nu {I : fM} {P : fN} {sc : Nat} {s : Int → Int} (h : Rel I P sc s) (hv : mOkr s) : sNu (s 2) (s 1) (I (sc + 2)) (fun i => s (3 + i)) := ⟨hv.1.2.2.1, hv.1.2.1, fun i i0 i1 => ⟨h.2.2.2.1 i i0 i1, hv.1.2.2.2 i i0 i1⟩⟩
theorem q_vis {I : fM} {P : fN} (h : Rel I P 1 (I 215)) (hv : mOkr (I 215)) {w f : Int} (h0 : 0 ≤ w) (h1 : w < I 215 0) (hf : f ≤ 4900) : xVis I P 1 w f ↔ mOn I w f = true := by
  show sVis (I 1 4) (I 1 3) (I (1 + 2)) (I (P (1 + 1) w)) f ↔ _
  rw [h.2.2.1, h.2.1]
  exact vis_onB (Rel_pl h h0 h1) (hv.2 w h0 h1) (Rel_nu h hv) hf
theorem q_put {I : fM} {P : fN} (h : Rel I P 1 (I 215)) (hv : mOkr (I 215)) {w f : Int} (h0 : 0 ≤ w) (h1 : w < I 215 0) (hf : f ≤ 4900) (hs : mOn I w f = true) : I (P 2 w) 6 = 1 := ((q_vis h hv h0 h1 hf).mpr hs).1
theorem q_row {I : fM} {P : fN} (h : Rel I P 1 (I 215)) {w f : Int} (h0 : 0 ≤ w) (h1 : w < I 215 0) (hp : I (P 2 w) 6 = 1) : sRowX (I 1 4) (I (P 2 w)) f = sRowM (I 215 2) (mR I w) f := by
  rw [h.2.2.1]
  exact row_eq (Rel_pl h h0 h1) hp
theorem q_col {I : fM} {P : fN} (h : Rel I P 1 (I 215)) {w f : Int} (h0 : 0 ≤ w) (h1 : w < I 215 0) (hp : I (P 2 w) 6 = 1) : sColX (I 1 4) (I (P 2 w)) f = sColM (I 215 2) (mR I w) f := by
  rw [h.2.2.1]
  exact col_eq (Rel_pl h h0 h1) hp
theorem q_met {I : fM} {P : fN} (h : Rel I P 1 (I 215)) (hv : mOkr (I 215)) {a b : Int} (a0 : 0 ≤ a) (a1 : a < I 215 0) (b0 : 0 ≤ b) (b1 : b < I 215 0) : xMet I P 1 a b = mMet I a b := by
  show sMeet (I 1 4) (I 1 3) (I (1 + 2)) (I (P (1 + 1) a)) (I (P (1 + 1) b)) = _
  rw [h.2.2.1, h.2.1]
  exact met_eq (Rel_pl h a0 a1) (hv.2 a a0 a1) (Rel_pl h b0 b1) (hv.2 b b0 b1) (Rel_nu h hv)
theorem q_cnt {I : fM} {P : fN} (h : Rel I P 1 (I 215)) : xCnt I P = mCnt (I 215) := by
  unfold xCnt mCnt
  rw [h.1]
  refine sSum_c (fun i i0 i1 => ?_)
  have k := (Rel_pl h i0 i1).2.2.2.2.2
  dsimp only at k
  rw [show P 2 i = P (1 + 1) i from rfl]
  (repeat' split) <;> omega
theorem q_pairs {I : fM} {P : fN} (h : Rel I P 1 (I 215)) (hv : mOkr (I 215)) : qXPairs I P 1 = qMPairs I := by
  unfold qXPairs qMPairs
  rw [h.1]
  refine sSum_c (fun i i0 i1 => sSum_c (fun j j0 j1 => ?_))
  rw [q_met h hv i0 i1 j0 j1]
theorem q_has {I : fM} {P : fN} (h : Rel I P 1 (I 215)) (hv : mOkr (I 215)) {w row col f : Int} (h0 : 0 ≤ w) (h1 : w < I 215 0) (hf : f ≤ 4900) : xHas I P 1 w row col f ↔ mHas I w row col f := by
  have e6 := (Rel_pl h h0 h1).1
  dsimp only at e6
  show xVis I P 1 w f ∧ sRowX (I 1 4) (I (P 2 w)) f = row ∧ sColX (I 1 4) (I (P 2 w)) f ≤ col ∧ col < sColX (I 1 4) (I (P 2 w)) f + I (P (1 + 1) w) 1 ↔ mOn I w f = true ∧ sRowM (I 215 2) (mR I w) f = row ∧ sColM (I 215 2) (mR I w) f ≤ col ∧ col ≤ sColM (I 215 2) (mR I w) f + I 215 (13 + 19 * w + 6) - 1
  rw [q_vis h hv h0 h1 hf, e6]
  constructor
  · rintro ⟨z, z1, z2, z3⟩
    have hp := q_put h hv h0 h1 hf z
    rw [q_row h h0 h1 hp] at z1
    rw [q_col h h0 h1 hp] at z2 z3
    exact ⟨z, z1, z2, by omega⟩
  · rintro ⟨z, z1, z2, z3⟩
    have hp := q_put h hv h0 h1 hf z
    rw [q_row h h0 h1 hp, q_col h h0 h1 hp]
    exact ⟨z, z1, z2, by omega⟩
theorem q_sF {I : fM} {P : fN} (h : Rel I P 1 (I 215)) (hv : mOkr (I 215)) {row col f : Int} (hf : f ≤ 4900) : sF (fun w => xHas I P 1 w row col f) 0 (I 1 1) = sF (fun w => mHas I w row col f) 0 (I 215 0) := by
  rw [h.1]
  exact sF_c (fun i i0 i1 => q_has h hv i0 i1 hf)
theorem q_char {I : fM} {P : fN} (h : Rel I P 1 (I 215)) (hv : mOkr (I 215)) {row col f : Int} (hf : f ≤ 4900) : qXChar I P 1 row col f = if qMIn I row col f = -19 then -19 else I 215 (13 + 19 * qMIn I row col f + (7 + col - sColM (I 215 2) (mR I (qMIn I row col f)) f)) := by
  have hn := hv.1.1
  have k := sF_is (c := fun w => mHas I w row col f) (a := 0) (b := I 215 0) hn.1
  have e := q_sF h hv (row := row) (col := col) hf
  unfold qXChar qMIn
  rw [e]
  obtain ⟨S, hS⟩ : ∃ S, S = sF (fun w => mHas I w row col f) 0 (I 215 0) := ⟨_, rfl⟩
  rw [← hS] at k ⊢
  rw [h.1]
  by_cases z : S < I 215 0
  · have hh : mHas I S row col f := k.2.2 z
    have s0 : 0 ≤ S := k.1.1
    rw [if_pos z, if_pos z, if_neg (by omega)]
    have hp := q_put h hv s0 z hf hh.1
    rw [show I (P (1 + 1) S + 1) = I (P 2 S + 1) from rfl, show I (P (1 + 1) S) = I (P 2 S) from rfl, q_col h s0 z hp]
    have hz := hh.2.2
    have hl := Rel_le (j := col - sColM (I 215 2) (mR I S) f) h s0 z (by omega) (by omega)
    rw [show I (P 2 S + 1) = I (P (1 + 1) S + 1) from rfl, hl]
    congr 1
    omega
  · rw [if_neg z, if_neg z, if_pos rfl]
theorem e_count {I : fM} {P : fN} (h : Rel I P 1 (I 215)) (hv : mOkr (I 215)) (e4 : I 0 3 = I 214 4) (e6 : I 212 1 = I 214 6) (what : Int) : qXCount I P what = qMCount I what := by
  unfold qXCount qMCount
  rw [h.1, h.2.1, h.2.2.1, q_pairs h hv, e4, e6]
  have c := q_cnt h
  unfold xCnt mCnt at c
  rw [h.1] at c
  rw [c]
theorem e_word {I : fM} {P : fN} (h : Rel I P 1 (I 215)) (hv : mOkr (I 215)) (w what : Int) : qXWord I P w what = qMWord I w what := by
  unfold qXWord qMWord
  rw [h.1]
  by_cases z : (0 ≤ w ∧ w < I 215 0) ∧ 0 ≤ what ∧ what ≤ 7
  · rw [if_pos z, if_pos z]
    have k := Rel_pl h z.1.1 z.1.2
    obtain ⟨k1, k2, k3, k4, k5, k6⟩ := id k
    dsimp only at k1 k2 k3 k4 k5 k6
    rw [show (1 + 1 : Nat) = 2 from rfl] at k1 k2 k3 k4 k5 k6
    have hw : what = 0 ∨ what = 1 ∨ what = 2 ∨ what = 3 ∨ what = 4 ∨ what = 5 ∨ what = 6 ∨ what = 7 := by omega
    by_cases hp : I (P 2 w) 6 = 0
    · rcases hw with rfl | rfl | rfl | rfl | rfl | rfl | rfl | rfl
      · rw [if_neg (by decide), if_pos (by decide), if_neg (by decide), if_neg (by omega), if_neg (by decide)]; exact k2
      · rw [if_neg (by decide), if_pos (by decide), if_neg (by decide), if_neg (by omega), if_neg (by decide)]; exact k3
      · rw [if_neg (by decide), if_pos (by decide), if_neg (by decide), if_neg (by omega), if_neg (by decide)]; exact k4
      · rw [if_neg (by decide), if_pos (by decide), if_neg (by decide), if_neg (by omega), if_neg (by decide)]; exact k5
      · rw [if_neg (by decide), if_neg (by decide), if_pos hp, if_neg (by decide), if_pos ⟨by decide, by omega⟩]
      · rw [if_neg (by decide), if_neg (by decide), if_pos hp, if_neg (by decide), if_pos ⟨by decide, by omega⟩]
      · rw [if_neg (by decide), if_neg (by decide), if_pos hp, if_neg (by decide), if_pos ⟨by decide, by omega⟩]
      · rw [if_pos rfl, if_pos rfl]; exact k1
    · have hp1 : I (P 2 w) 6 = 1 := by omega
      rcases hw with rfl | rfl | rfl | rfl | rfl | rfl | rfl | rfl
      · rw [if_neg (by decide), if_pos (by decide), if_neg (by decide), if_neg (by omega), if_neg (by decide)]; exact k2
      · rw [if_neg (by decide), if_pos (by decide), if_neg (by decide), if_neg (by omega), if_neg (by decide)]; exact k3
      · rw [if_neg (by decide), if_pos (by decide), if_neg (by decide), if_neg (by omega), if_neg (by decide)]; exact k4
      · rw [if_neg (by decide), if_pos (by decide), if_neg (by decide), if_neg (by omega), if_neg (by decide)]; exact k5
      · rw [if_neg (by decide), if_neg (by decide), if_neg hp, if_pos rfl, if_neg (by decide), if_neg (by omega), if_neg (by decide)]; omega
      · rw [if_neg (by decide), if_neg (by decide), if_neg hp, if_neg (by decide), if_pos rfl, if_neg (by decide), if_neg (by omega), if_neg (by decide)]; omega
      · rw [if_neg (by decide), if_neg (by decide), if_neg hp, if_neg (by decide), if_neg (by decide), if_neg (by decide), if_neg (by omega), if_pos rfl]
        rw [h.2.2.1, h.2.1]
        unfold qMLast
        exact (last_eq k (hv.2 w z.1.1 z.1.2) (Rel_nu h hv) hp1).symm
      · rw [if_pos rfl, if_pos rfl]; exact k1
  · rw [if_neg z, if_neg z]
theorem e_letter {I : fM} {P : fN} (h : Rel I P 1 (I 215)) (hv : mOkr (I 215)) (w i : Int) : qXLetter I P w i = qMLetter I w i := by
  unfold qXLetter qMLetter
  rw [h.1]
  by_cases z : (0 ≤ w ∧ w < I 215 0) ∧ 0 ≤ i
  · rw [if_pos z, if_pos z]
    have k1 := (Rel_pl h z.1.1 z.1.2).1
    dsimp only at k1
    rw [show P 2 w = P (1 + 1) w from rfl, k1]
    by_cases y : i < I 215 (13 + 19 * w + 6)
    · rw [if_pos y, if_pos y]
      exact Rel_le h z.1.1 z.1.2 z.2 y
    · rw [if_neg y, if_neg y]
  · rw [if_neg z, if_neg z]
theorem e_shot {I : fM} {P : fN} (h : Rel I P 1 (I 215)) (hv : mOkr (I 215)) (i : Int) : qXShot I i = qMShot I i := by
  unfold qXShot qMShot
  rw [h.2.1]
  by_cases z : i < 0
  · rw [if_pos z, if_pos z]
  · rw [if_neg z, if_neg z]
    by_cases y : i < I 215 1
    · rw [if_pos y, if_pos y]
      exact h.2.2.2.1 i (by omega) y
    · rw [if_neg y, if_neg y]
theorem e_where {I : fM} {P : fN} (h : Rel I P 1 (I 215)) (hv : mOkr (I 215)) (w f what : Int) : qXWhere I P w f what = qMWhere I w f what := by
  unfold qXWhere qMWhere
  rw [h.1]
  by_cases z : (0 ≤ w ∧ w < I 215 0) ∧ (0 ≤ f ∧ f ≤ 4000) ∧ 0 ≤ what ∧ what ≤ 1
  · rw [if_pos z, if_pos z]
    by_cases y : mOn I w f = true
    · have hx := (q_vis h hv z.1.1 z.1.2 (by omega)).mpr y
      rw [if_pos hx, if_pos y, q_row h z.1.1 z.1.2 hx.1, q_col h z.1.1 z.1.2 hx.1]
      (repeat' split) <;> omega
    · rw [if_neg (fun q => y ((q_vis h hv z.1.1 z.1.2 (by omega)).mp q)), if_neg y]
  · rw [if_neg z, if_neg z]
theorem e_written {I : fM} {P : fN} (h : Rel I P 1 (I 215)) (hv : mOkr (I 215)) (row col f : Int) : qXWritten I P row col f = qMWritten I row col f := by
  unfold qXWritten qMWritten
  by_cases z : (0 ≤ row ∧ row ≤ 7) ∧ (0 ≤ col ∧ col ≤ 39) ∧ 0 ≤ f ∧ f ≤ 4000
  · rw [if_pos z, if_pos z]
    exact q_char h hv (by omega)
  · rw [if_neg z, if_neg z]
theorem e_onScreen {I : fM} {P : fN} (h : Rel I P 1 (I 215)) (hv : mOkr (I 215)) (f : Int) : qXOnScreen I P f = qMOnScreen I f := by
  unfold qXOnScreen qMOnScreen
  by_cases z : 0 ≤ f ∧ f ≤ 4000
  · rw [if_pos z, if_pos z, h.1]
    refine sSet_c (fun i i0 i1 => ?_)
    have k := q_vis h hv (f := f) i0 i1 (by omega)
    cases e : mOn I i f with
    | true => exact decide_eq_true (k.mpr e)
    | false => exact decide_eq_false (fun q => by rw [k.mp q] at e; cases e)
  · rw [if_neg z, if_neg z]
theorem e_meeting {I : fM} {P : fN} (h : Rel I P 1 (I 215)) (hv : mOkr (I 215)) (a b : Int) : qXMeeting I P a b = qMMeeting I a b := by
  unfold qXMeeting qMMeeting
  rw [h.1]
  by_cases z : (0 ≤ a ∧ a < I 215 0) ∧ (0 ≤ b ∧ b < I 215 0) ∧ a ≠ b
  · rw [if_pos z, if_pos z]
    exact q_met h hv z.1.1 z.1.2 z.2.1.1 z.2.1.2
  · rw [if_neg z, if_neg z]
theorem e_pace {I : fM} {P : fN} (h : Rel I P 1 (I 215)) (hv : mOkr (I 215)) (f : Int) : qXPace I P f = qMPace I f := by
  unfold qXPace qMPace
  have e : qXPaceF I P 1 f (I 1 1) = qMPaceF I f (I 215 0) := by
    unfold qXPaceF qMPaceF
    rw [h.1]
    refine sPaceF_c (fun i i0 i1 => ?_)
    have k := Rel_pl h i0 i1
    exact ⟨k.1, k.2.1, k.2.2.1⟩
  rw [e]
theorem e_filled {I : fM} {P : fN} (h : Rel I P 1 (I 215)) (hv : mOkr (I 215)) (f : Int) : qXFilled I P f = qMFilled I f := by
  unfold qXFilled qMFilled
  by_cases z : 0 ≤ f ∧ f ≤ 4000
  · rw [if_pos z, if_pos z]
    refine sSum_c (fun row r0 r1 => ?_)
    unfold sPop
    refine sSum_c (fun col c0 c1 => ?_)
    have hn := hv.1.1
    have k := sF_is (c := fun w => mHas I w row col f) (a := 0) (b := I 215 0) hn.1
    have hiff : xCell I P 1 row f col ↔ qMIn I row col f ≠ -19 := by
      unfold qMIn
      constructor
      · rintro ⟨-, w, w0, w1, w2⟩
        rw [h.1] at w1
        have w3 := (q_has h hv w0 w1 (by omega)).mp w2
        have : sF (fun w => mHas I w row col f) 0 (I 215 0) < I 215 0 := by
          rcases Int.lt_or_le (sF (fun w => mHas I w row col f) 0 (I 215 0)) (I 215 0) with q | q
          · exact q
          · exact absurd w3 (k.2.1 w w0 (by omega))
        rw [if_pos this]
        have := k.1.1
        omega
      · intro q
        by_cases y : sF (fun w => mHas I w row col f) 0 (I 215 0) < I 215 0
        · exact ⟨c1, _, k.1.1, by rw [h.1]; exact y, (q_has h hv k.1.1 y (by omega)).mpr (k.2.2 y)⟩
        · rw [if_neg y] at q
          exact absurd rfl q
    by_cases q : qMIn I row col f ≠ -19
    · rw [if_pos q]
      exact @if_pos _ (Classical.propDecidable _) (hiff.mpr q) _ _ _
    · rw [if_neg q]
      exact @if_neg _ (Classical.propDecidable _) (fun y => q (hiff.mp y)) _ _ _
  · rw [if_neg z, if_neg z]
