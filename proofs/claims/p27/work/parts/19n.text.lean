/-! TEXT: tokens, items -/
/-- the kind of a character: 0 the end, 1 a letter, 2 a digit, 3 a semicolon, 4 another one -/
def tKd (T : Int → Int) (n i : Int) : Int := if n ≤ i then 0 else if 97 ≤ T i ∧ T i ≤ 122 then 1 else if 48 ≤ T i ∧ T i ≤ 57 then 2 else if T i = 59 then 3 else 4
/-- the token from place e on: its start, its kind, its end -/
noncomputable def tS (T : Int → Int) (n e : Int) : Int := sF (fun i => T i ≠ 32) e n
noncomputable def tK (T : Int → Int) (n e : Int) : Int := tKd T n (tS T n e)
noncomputable def tE (T : Int → Int) (n e : Int) : Int := if tK T n e = 1 ∨ tK T n e = 2 then sF (fun i => tKd T n i ≠ tK T n e) (tS T n e) n else if tK T n e ≠ 0 then tS T n e + 1 else tS T n e
theorem tKd_b (T : Int → Int) (n i : Int) : 0 ≤ tKd T n i ∧ tKd T n i ≤ 4 := by
  unfold tKd
  (repeat' split) <;> omega
theorem tKd_0 {T : Int → Int} {n i : Int} : tKd T n i = 0 ↔ n ≤ i := by
  unfold tKd
  (repeat' split) <;> omega
theorem tK_b (T : Int → Int) (n e : Int) : 0 ≤ tK T n e ∧ tK T n e ≤ 4 := tKd_b _ _ _
theorem tS_b {T : Int → Int} {n e : Int} (h : e ≤ n) : e ≤ tS T n e ∧ tS T n e ≤ n := (sF_is h).1
theorem tK_0 {T : Int → Int} {n e : Int} (h : e ≤ n) : tK T n e = 0 ↔ tS T n e = n := by
  have := tS_b (T := T) h
  unfold tK
  rw [tKd_0]
  omega
theorem tE_b {T : Int → Int} {n e : Int} (h : e ≤ n) : tS T n e ≤ tE T n e ∧ tE T n e ≤ n ∧ (tK T n e ≠ 0 → tS T n e < tE T n e) := by
  have h1 := tS_b (T := T) h
  have h2 := tK_0 (T := T) h
  unfold tE
  split
  · rename_i hk
    have k := sF_is (c := fun i => tKd T n i ≠ tK T n e) h1.2
    refine ⟨k.1.1, k.1.2, fun hz => ?_⟩
    rcases Int.lt_or_le (tS T n e) (sF (fun i => tKd T n i ≠ tK T n e) (tS T n e) n) with z | z
    · exact z
    · have k1 := k.1.1
      have e1 : sF (fun i => tKd T n i ≠ tK T n e) (tS T n e) n = tS T n e := by omega
      have := k.2.2 (by omega)
      rw [e1] at this
      exact absurd rfl this
  · split
    · rename_i h3
      have : tS T n e ≠ n := fun z => h3 (h2.mpr z)
      omega
    · rename_i h3
      exact ⟨by omega, by omega, fun z => absurd z h3⟩
/-- all of a run of letters or digits is of its kind -/
theorem tE_run {T : Int → Int} {n e i : Int} (h : e ≤ n) (hk : tK T n e = 1 ∨ tK T n e = 2) (h1 : tS T n e ≤ i) (h2 : i < tE T n e) : tKd T n i = tK T n e := by
  unfold tE at h2
  rw [if_pos hk] at h2
  have k := (sF_is (c := fun i => tKd T n i ≠ tK T n e) (tS_b h).2).2.1 i h1 h2
  exact Decidable.not_not.mp k
theorem tKd_1 {T : Int → Int} {n i : Int} (h : tKd T n i = 1) : i < n ∧ 97 ≤ T i ∧ T i ≤ 122 := by
  unfold tKd at h
  (repeat' split at h) <;> omega
theorem tKd_2 {T : Int → Int} {n i : Int} (h : tKd T n i = 2) : i < n ∧ 48 ≤ T i ∧ T i ≤ 57 := by
  unfold tKd at h
  (repeat' split at h) <;> omega
/-- the value of k digits from place a on -/
def dval (T : Int → Int) (a : Int) : Nat → Int
  | 0 => 0
  | k + 1 => 10 * dval T a k + (T (a + k) - 48)
theorem dval_mono {T : Int → Int} {a : Int} {m : Nat} (hT : ∀ i : Nat, i < m → 48 ≤ T (a + i)) : ∀ k : Nat, k ≤ m → 0 ≤ dval T a k ∧ ∀ j : Nat, j ≤ k → dval T a j ≤ dval T a k := by
  intro k
  induction k with
  | zero => exact fun _ => ⟨Int.le_refl _, fun j hj => by rw [show j = 0 by omega]; exact Int.le_refl _⟩
  | succ k ih =>
    intro hk
    have h1 := ih (by omega)
    have h2 := hT k (by omega)
    have e : dval T a (k + 1) = 10 * dval T a k + (T (a + k) - 48) := rfl
    refine ⟨by omega, fun j hj => ?_⟩
    by_cases z : j = k + 1
    · rw [z]; exact Int.le_refl _
    · have := h1.2 j (by omega)
      omega
/-- a token's value as a number, or -1 -/
noncomputable def tNum (T : Int → Int) (n e : Int) : Int := if tK T n e = 2 ∧ ¬ (T (tS T n e) = 48 ∧ 1 < tE T n e - tS T n e) then dval T (tS T n e) (tE T n e - tS T n e).toNat else -1
/-- a number as the class reads it: of more than 4000 it makes -1 -/
def tClip (v : Int) : Int := if v ≤ 4000 then v else -1
/-- whether a token is the text constant i -/
def tNm (T : Int → Int) (n e : Int) (i : Nat) : Prop := tK T n e = 1 ∧ tE T n e - tS T n e = ((fLen.getD i 0 : Nat) : Int) ∧ ∀ j : Nat, j < fLen.getD i 0 → T (tS T n e + j) = fChr i j
noncomputable def tNmB (T : Int → Int) (n e : Int) (i : Nat) : Bool := @decide (tNm T n e i) (Classical.propDecidable _)
theorem tNmB_t {T : Int → Int} {n e : Int} {i : Nat} (h : tNm T n e i) : tNmB T n e i = true := @decide_eq_true _ (Classical.propDecidable _) h
theorem tNmB_f {T : Int → Int} {n e : Int} {i : Nat} (h : ¬ tNm T n e i) : tNmB T n e i = false := @decide_eq_false _ (Classical.propDecidable _) h
theorem tNmB_iff {T : Int → Int} {n e : Int} {i : Nat} : tNmB T n e i = true ↔ tNm T n e i := @decide_eq_true_iff _ (Classical.propDecidable _)
noncomputable def tWay (T : Int → Int) (n e : Int) : Int := if tNmB T n e 2 then 1 else if tNmB T n e 3 then 2 else if tNmB T n e 4 then 3 else if tNmB T n e 5 then 4 else 0
theorem tWay_b (T : Int → Int) (n e : Int) : 0 ≤ tWay T n e ∧ tWay T n e ≤ 4 := by
  unfold tWay
  (repeat' split) <;> omega
/-- what an item is: an error at a place; a word: its letters' place and number, its frames, its way; a shot. Behind it, the place where it ends -/
abbrev PI : Type := Int ⊕ (Int × Int × Int × Int × Int × Int × Int) ⊕ (Int × Int)
/-- the place behind a way, if there is one -/
noncomputable def tWe (T : Int → Int) (n e : Int) : Int := if tWay T n e ≠ 0 then tE T n e else e
noncomputable def pWord (T : Int → Int) (n e0 : Int) : PI :=
  if tK T n e0 = 1 ∧ tE T n e0 - tS T n e0 ≤ 12 then
    if 0 ≤ tNum T n (tE T n e0) ∧ tNum T n (tE T n e0) ≤ 2000 then
      if 1 ≤ tNum T n (tE T n (tE T n e0)) ∧ tNum T n (tE T n (tE T n e0)) ≤ 60 then
        if 0 ≤ tNum T n (tE T n (tE T n (tE T n e0))) ∧ tNum T n (tE T n (tE T n (tE T n e0))) ≤ 60 then
          if tK T n (tWe T n (tE T n (tE T n (tE T n (tE T n e0))))) = 3 then
            .inr (.inl (tS T n e0, tE T n e0 - tS T n e0, tNum T n (tE T n e0), tNum T n (tE T n (tE T n e0)), tNum T n (tE T n (tE T n (tE T n e0))), tWay T n (tE T n (tE T n (tE T n (tE T n e0)))), tE T n (tWe T n (tE T n (tE T n (tE T n (tE T n e0)))))))
          else .inl (tS T n (tWe T n (tE T n (tE T n (tE T n (tE T n e0))))))
        else .inl (tS T n (tE T n (tE T n (tE T n e0))))
      else .inl (tS T n (tE T n (tE T n e0)))
    else .inl (tS T n (tE T n e0))
  else .inl (tS T n e0)
/-- whether a shot of a frame is there -/
def hasS (s : Int → Int) (f : Int) : Prop := ∃ i, 0 ≤ i ∧ i < s 1 ∧ s (3 + i) = f
noncomputable def hasSB (s : Int → Int) (f : Int) : Bool := @decide (hasS s f) (Classical.propDecidable _)
theorem hasSB_iff {s : Int → Int} {f : Int} : hasSB s f = true ↔ hasS s f := @decide_eq_true_iff _ (Classical.propDecidable _)
noncomputable def pShot (T : Int → Int) (n : Int) (s : Int → Int) (e0 : Int) : PI :=
  if (1 ≤ tNum T n e0 ∧ tNum T n e0 ≤ 3000) ∧ hasSB s (tNum T n e0) = false then
    if tK T n (tE T n e0) = 3 then .inr (.inr (tNum T n e0, tE T n (tE T n e0))) else .inl (tS T n (tE T n e0))
  else .inl (tS T n e0)
noncomputable def pItem (T : Int → Int) (n : Int) (s : Int → Int) (e : Int) : PI :=
  if tNmB T n e 0 = true ∧ s 0 < 12 then pWord T n (tE T n e)
  else if tNmB T n e 1 = true ∧ s 1 < 10 then pShot T n s (tE T n e)
  else .inl (tS T n e)
/-- an array with a new word, with a new shot -/
def rWord (T s : Int → Int) (a l f sp h w : Int) : Int → Int := fun b =>
  if 13 + 19 * s 0 + 7 ≤ b ∧ b < 13 + 19 * s 0 + 7 + l then T (a + (b - (13 + 19 * s 0 + 7)))
  else if b = 0 then s 0 + 1 else if b = 13 + 19 * s 0 + 0 then f else if b = 13 + 19 * s 0 + 1 then sp else if b = 13 + 19 * s 0 + 2 then h else if b = 13 + 19 * s 0 + 3 then w else if b = 13 + 19 * s 0 + 4 then -1 else if b = 13 + 19 * s 0 + 5 then -1 else if b = 13 + 19 * s 0 + 6 then l else s b
def rShot (s : Int → Int) (f : Int) : Int → Int := fun b => if b = 1 then s 1 + 1 else if 3 + ((pIns (fun i => s (3 + i)) f (s 1).toNat : Nat) : Int) < b ∧ b ≤ 3 + s 1 then s (b - 1) else if b = 3 + ((pIns (fun i => s (3 + i)) f (s 1).toNat : Nat) : Int) then f else s b
/-- the items of a text read into an array: the answer, the array -/
noncomputable def pLoad (T : Int → Int) (n : Int) : Nat → (Int → Int) → Int → Int → Int × (Int → Int)
  | 0, s, _, _ => (-1000, s)
  | k + 1, s, e, i => if tK T n e = 0 then (i, s) else match pItem T n s e with
    | .inl p => (-1000 - p, s)
    | .inr (.inl (a, l, f, sp, h, w, e2)) => pLoad T n k (rWord T s a l f sp h w) e2 (i + 1)
    | .inr (.inr (f, e2)) => pLoad T n k (rShot s f) e2 (i + 1)
theorem tWe_b {T : Int → Int} {n e : Int} (h : e ≤ n) : e ≤ tWe T n e ∧ tWe T n e ≤ n := by
  have h1 := tS_b (T := T) h
  have h2 := tE_b (T := T) h
  unfold tWe
  split <;> omega
/-- text that can be -/
def tOk (T : Int → Int) (n : Int) : Prop := ∀ i : Int, 0 ≤ i → i < n → 1 ≤ T i ∧ T i ≤ 255
/-- a step of the class's text -/
noncomputable def tStep (I : fM) : fM := fun a b => if a = 212 ∧ b = 2 then tK (I 213) (I 212 1) (I 212 4) else if a = 212 ∧ b = 3 then tS (I 213) (I 212 1) (I 212 4) else if a = 212 ∧ b = 4 then tE (I 213) (I 212 1) (I 212 4) else I a b
/-- nothing has changed but the present token -/
def tOff (I J : fM) : Prop := (∀ a : Nat, a ≠ 212 → J a = I a) ∧ ∀ b : Int, b ≠ 2 → b ≠ 3 → b ≠ 4 → J 212 b = I 212 b
theorem tOff_r (I : fM) : tOff I I := ⟨fun _ _ => rfl, fun _ _ _ _ => rfl⟩
theorem tStep_off {I J : fM} (h : tOff I J) : tOff I (tStep J) := by
  refine ⟨fun a ha => ?_, fun b h2 h3 h4 => ?_⟩
  · funext b
    unfold tStep
    rw [if_neg (fun z => ha z.1), if_neg (fun z => ha z.1), if_neg (fun z => ha z.1), h.1 a ha]
  · unfold tStep
    rw [if_neg (fun z => h2 z.2), if_neg (fun z => h3 z.2), if_neg (fun z => h4 z.2), h.2 b h2 h3 h4]
theorem tStep_2 {I J : fM} {e : Int} (h : tOff I J) (he : J 212 4 = e) : tStep J 212 2 = tK (I 213) (I 212 1) e ∧ tStep J 212 3 = tS (I 213) (I 212 1) e ∧ tStep J 212 4 = tE (I 213) (I 212 1) e := by
  have e1 : J 213 = I 213 := h.1 213 (by decide)
  have e2 : J 212 1 = I 212 1 := h.2 1 (by decide) (by decide) (by decide)
  unfold tStep
  simp [e1, e2, he]
theorem fup_fup {I : fM} {k : Nat} {j x y : Int} : fup (fup I k j x) k j y = fup I k j y := by
  funext a b
  unfold fup
  split <;> rfl
/-- a word read from the text put behind a scene's words -/
def xWrd (I : fM) (P : fN) (sc : Nat) (a l f s h w : Int) : fM := fcpy (xApp I P sc l f s h w) 213 a (P (sc + 1) (I sc 1) + 1) 0 l
/-- a shot put among a scene's -/
def xIns (I : fM) (sc : Nat) (f : Int) : fM := fup (fIns I (sc + 2) 0 (I sc 3) (pIns (fun i => I (sc + 2) i) f (I sc 3).toNat) f) sc 3 (I sc 3 + 1)
theorem tE_else {T : Int → Int} {n e : Int} (h : ¬ (tK T n e = 1 ∨ tK T n e = 2)) (h0 : tK T n e = 0) : tE T n e = tS T n e := by
  unfold tE
  rw [if_neg h, if_neg (by omega)]
theorem step_end {I J : fM} {j : Int} (hts : tS (I 213) (I 212 1) (I 212 4) = j) (h : J = fup (fup (fup (fup I 212 3 j) 212 4 j) 212 2 (tK (I 213) (I 212 1) (I 212 4))) 212 4 (tE (I 213) (I 212 1) (I 212 4))) : J = tStep I := by
  rw [h]
  funext a b
  unfold fup tStep
  by_cases ha : a = 212
  · subst ha
    by_cases h4 : b = 4
    · subst h4; simp
    · by_cases h3 : b = 3
      · subst h3; simp [hts]
      · by_cases h2 : b = 2
        · subst h2; simp
        · simp [h2, h3, h4]
  · simp [ha]
