/-! SPEC X: the class's reads over a scene -/
noncomputable abbrev xVis (I : fM) (P : fN) (sc : Nat) (w f : Int) : Prop := sVis (I sc 4) (I sc 3) (I (sc + 2)) (I (P (sc + 1) w)) f
noncomputable abbrev xMet (I : fM) (P : fN) (sc : Nat) (a b : Int) : Int := sMeet (I sc 4) (I sc 3) (I (sc + 2)) (I (P (sc + 1) a)) (I (P (sc + 1) b))
abbrev xHas (I : fM) (P : fN) (sc : Nat) (w row col f : Int) : Prop := xVis I P sc w f ∧ sRowX (I sc 4) (I (P (sc + 1) w)) f = row ∧ sColX (I sc 4) (I (P (sc + 1) w)) f ≤ col ∧ col < sColX (I sc 4) (I (P (sc + 1) w)) f + I (P (sc + 1) w) 1
noncomputable def qXPairs (I : fM) (P : fN) (sc : Nat) : Int := sSum (fun a => sSum (fun b => if a < b ∧ xMet I P sc a b ≠ -19 then 1 else 0) (I sc 1)) (I sc 1)
noncomputable def qXChar (I : fM) (P : fN) (sc : Nat) (row col f : Int) : Int := if sF (fun w => xHas I P sc w row col f) 0 (I sc 1) < I sc 1 then I (P (sc + 1) (sF (fun w => xHas I P sc w row col f) 0 (I sc 1)) + 1) (col - sColX (I sc 4) (I (P (sc + 1) (sF (fun w => xHas I P sc w row col f) 0 (I sc 1)))) f) else -19
def qXPaceF (I : fM) (P : fN) (sc : Nat) (f n : Int) : UInt32 := sPaceF (fun w => I (P (sc + 1) w) 1) (fun w => I (P (sc + 1) w) 2) (fun w => I (P (sc + 1) w) 3) f n
theorem sBits_c {L : Int64} {S T : Int → Prop} (h : sBits L S) (e : ∀ j, 0 ≤ j → j < 64 → (S j ↔ T j)) : sBits L T := fun j hj => (h j hj).trans (e j (by omega) (by omega))
theorem xPairs_0 {I : fM} {P : fN} {sc : Nat} {a : Int} (h : 0 ≤ a) : sSum (fun b => if a < b ∧ xMet I P sc a b ≠ -19 then 1 else 0) (a + 1) = 0 :=
  sSum_z (by omega) (fun i h1 h2 => if_neg (fun z => by omega))
/-- the class's state, as far as it is always so -/
def xOk (I : fM) (P : fN) : Prop := fSv I 1 ∧ fPs P 1 ∧ (∀ w : Int, 0 ≤ w → w < I 1 1 → fWv I (P 2 w)) ∧ (0 ≤ I 0 3 ∧ I 0 3 ≤ 5) ∧ (0 ≤ I 212 1 ∧ I 212 1 ≤ 160)
noncomputable def qXCount (I : fM) (P : fN) (what : Int) : Int := if what = 0 then I 1 1 else if what = 1 then sSum (fun i => if I (P 2 i) 6 = 1 then 1 else 0) (I 1 1) else if what = 2 then I 1 3 else if what = 3 then I 1 4 else if what = 4 then qXPairs I P 1 else if what = 5 then I 0 3 else if what = 6 then I 212 1 else -11
noncomputable def qXWord (I : fM) (P : fN) (w what : Int) : Int := if (0 ≤ w ∧ w < I 1 1) ∧ 0 ≤ what ∧ what ≤ 7 then (if what = 7 then I (P 2 w) 1 else if what ≤ 3 then I (P 2 w) (what + 2) else if I (P 2 w) 6 = 0 then -19 else if what = 4 then I (P 2 w) 7 else if what = 5 then I (P 2 w) 8 else sGone (I 1 4) (I 1 3) (I 3) (I (P 2 w)) - 1) else -11
def qXLetter (I : fM) (P : fN) (w i : Int) : Int := if (0 ≤ w ∧ w < I 1 1) ∧ 0 ≤ i then (if i < I (P 2 w) 1 then I (P 2 w + 1) i else -19) else -11
def qXShot (I : fM) (i : Int) : Int := if i < 0 then -11 else if i < I 1 3 then I 3 i else -19
noncomputable def qXWhere (I : fM) (P : fN) (w f what : Int) : Int := if (0 ≤ w ∧ w < I 1 1) ∧ (0 ≤ f ∧ f ≤ 4000) ∧ 0 ≤ what ∧ what ≤ 1 then (if xVis I P 1 w f then (if what = 0 then sRowX (I 1 4) (I (P 2 w)) f else if 0 ≤ sColX (I 1 4) (I (P 2 w)) f ∧ sColX (I 1 4) (I (P 2 w)) f ≤ 39 then sColX (I 1 4) (I (P 2 w)) f else -1000 + sColX (I 1 4) (I (P 2 w)) f) else -19) else -11
noncomputable def qXWritten (I : fM) (P : fN) (row col f : Int) : Int := if (0 ≤ row ∧ row ≤ 7) ∧ (0 ≤ col ∧ col ≤ 39) ∧ 0 ≤ f ∧ f ≤ 4000 then qXChar I P 1 row col f else -11
noncomputable def qXMeeting (I : fM) (P : fN) (a b : Int) : Int := if (0 ≤ a ∧ a < I 1 1) ∧ (0 ≤ b ∧ b < I 1 1) ∧ a ≠ b then xMet I P 1 a b else -11
noncomputable def qXOnScreen (I : fM) (P : fN) (f : Int) : Int32 := if 0 ≤ f ∧ f ≤ 4000 then sSet (fun w => decide (xVis I P 1 w f)) (I 1 1) else i32 (-11)
def qXPace (I : fM) (P : fN) (f : Int) : Int := if 0 ≤ f ∧ f ≤ 4000 then (FP.f2i (FP.fmul (qXPaceF I P 1 f (I 1 1)) 1103626240)).toInt else -11
/-- the occupied cells of a row -/
abbrev xCell (I : fM) (P : fN) (sc : Nat) (row f j : Int) : Prop := j < 40 ∧ ∃ w, 0 ≤ w ∧ w < I sc 1 ∧ xHas I P sc w row j f
theorem cell_skip {I : fM} {P : fN} {sc : Nat} {row f i : Int} (hno : ∀ j, ¬ xHas I P sc i row j f) : ∀ j, 0 ≤ j → j < 64 → ((j < 40 ∧ ∃ w, 0 ≤ w ∧ w < i ∧ xHas I P sc w row j f) ↔ (j < 40 ∧ ∃ w, 0 ≤ w ∧ w < i + 1 ∧ xHas I P sc w row j f)) := by
  intro j _ _
  constructor
  · rintro ⟨h, w, h0, h1, h2⟩
    exact ⟨h, w, h0, by omega, h2⟩
  · rintro ⟨h, w, h0, h1, h2⟩
    refine ⟨h, w, h0, ?_, h2⟩
    by_cases e : w = i
    · rw [e] at h2; exact absurd h2 (hno j)
    · omega
theorem cell_add {I : fM} {P : fN} {sc : Nat} {row f i c : Int} (hi : 0 ≤ i) (hv : xVis I P sc i f) (hr : sRowX (I sc 4) (I (P (sc + 1) i)) f = row) (hc : (max (sColX (I sc 4) (I (P (sc + 1) i)) f) 0 ≤ c ∧ (c ≤ 300000 ∧ (max (sColX (I sc 4) (I (P (sc + 1) i)) f) 0 ≤ min (sColX (I sc 4) (I (P (sc + 1) i)) f + I (P (sc + 1) i) 1) 40 → c ≤ min (sColX (I sc 4) (I (P (sc + 1) i)) f + I (P (sc + 1) i) 1) 40) ∧ (min (sColX (I sc 4) (I (P (sc + 1) i)) f + I (P (sc + 1) i) 1) 40 < max (sColX (I sc 4) (I (P (sc + 1) i)) f) 0 → c = max (sColX (I sc 4) (I (P (sc + 1) i)) f) 0))) ∧ min (sColX (I sc 4) (I (P (sc + 1) i)) f + I (P (sc + 1) i) 1) 40 ≤ c) : ∀ j, 0 ≤ j → j < 64 → ((j < 40 ∧ ∃ w, 0 ≤ w ∧ w < i ∧ xHas I P sc w row j f) ∨ (max (sColX (I sc 4) (I (P (sc + 1) i)) f) 0 ≤ j ∧ j < c) ↔ (j < 40 ∧ ∃ w, 0 ≤ w ∧ w < i + 1 ∧ xHas I P sc w row j f)) := by
  intro j hj _
  constructor
  · rintro (⟨h, w, h0, h1, h2⟩ | h)
    · exact ⟨h, w, h0, by omega, h2⟩
    · exact ⟨by omega, i, hi, by omega, hv, hr, by omega, by omega⟩
  · rintro ⟨h, w, h0, h1, h2⟩
    by_cases e : w = i
    · subst e
      have h3 := h2.2.2.1
      have h4 := h2.2.2.2
      exact Or.inr (by omega)
    · exact Or.inl ⟨h, w, h0, by omega, h2⟩
