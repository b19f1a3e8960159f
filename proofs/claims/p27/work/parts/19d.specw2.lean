/-! SPEC W2: the reference's public writes -/
theorem mSv_eq {I M : fM} (h : ∀ b, b < 13 → M 215 b = I 215 b) (hm : mSv I) : mSv M := by
  obtain ⟨h1, h2, h3, h4⟩ := hm
  refine ⟨by rw [h 0 (by decide)]; exact h1, by rw [h 1 (by decide)]; exact h2, by rw [h 2 (by decide)]; exact h3, fun i q1 q2 => ?_⟩
  rw [h 1 (by decide)] at q2
  rw [h (3 + i) (by omega)]
  exact h4 i q1 q2
abbrev addV (le f sp he way : Int) : Prop := (1 ≤ le ∧ le ≤ 12) ∧ (0 ≤ f ∧ f ≤ 2000) ∧ (1 ≤ sp ∧ sp ≤ 60) ∧ (0 ≤ he ∧ he ≤ 60) ∧ 0 ≤ way ∧ way ≤ 4
def qMAdd (I : fM) (le f sp he way : Int) : Int := if addV le f sp he way then (if I 215 0 = 12 then -13 else I 215 0) else -11
def gMAdd (I : fM) (le f sp he way : Int) : fM := if addV le f sp he way ∧ I 215 0 ≠ 12 then mLet (mMake (mAct I) le f sp he way) 215 (13 + 19 * I 215 0 + 7) le else I
def qMRem (I : fM) (w : Int) : Int := if 0 ≤ w ∧ w < I 215 0 then I 215 0 - 1 else -11
def gMRem (I : fM) (w : Int) : fM := if 0 ≤ w ∧ w < I 215 0 then fcpy (fup (mAct I) 215 0 (I 215 0 - 1)) 215 (13 + 19 * w + 19) 215 (13 + 19 * w) (19 * (I 215 0 - 1 - w)) else I
/-- a word is taken from its place -/
def mOff (I : fM) (w : Int) : fM := fup (fup I 215 (13 + 19 * w + 4) (-1)) 215 (13 + 19 * w + 5) (-1)
def mLay (I : fM) (w la co : Int) : fM := fup (fup I 215 (13 + 19 * w + 4) la) 215 (13 + 19 * w + 5) co
def qMSet (I : fM) (w what v : Int) : Int := if (0 ≤ w ∧ w < I 215 0) ∧ sAllowed what v = true then I 215 (13 + 19 * w + what) else -11
def gMSet (I : fM) (w what v : Int) : fM := if (0 ≤ w ∧ w < I 215 0) ∧ sAllowed what v = true then mOff (fup (mAct I) 215 (13 + 19 * w + what) v) w else I
noncomputable def qMAddShot (I : fM) (f : Int) : Int := if 1 ≤ f ∧ f ≤ 3000 then (if qMShotOf I f ≠ -19 then -12 else if I 215 1 = 10 then -13 else I 215 1 + 1) else -11
noncomputable def gMAddShot (I : fM) (f : Int) : fM := if (1 ≤ f ∧ f ≤ 3000) ∧ qMShotOf I f = -19 ∧ I 215 1 ≠ 10 then fup (fIns (mAct I) 215 3 (I 215 1) (pIns (fun i => I 215 (3 + i)) f (I 215 1).toNat) f) 215 1 (I 215 1 + 1) else I
noncomputable def qMRemShot (I : fM) (f : Int) : Int := if 1 ≤ f ∧ f ≤ 3000 then (if qMShotOf I f = -19 then -12 else I 215 1 - 1) else -11
noncomputable def gMRemShot (I : fM) (f : Int) : fM := if (1 ≤ f ∧ f ≤ 3000) ∧ qMShotOf I f ≠ -19 then fcpy (fup (mAct I) 215 1 (I 215 1 - 1)) 215 (3 + qMShotOf I f + 1) 215 (3 + qMShotOf I f) (I 215 1 - 1 - qMShotOf I f) else I
def qMSpeed (I : fM) (x : Int) : Int := if 50 ≤ x ∧ x ≤ 400 then I 215 2 else -11
def gMSpeed (I : fM) (x : Int) : fM := if 50 ≤ x ∧ x ≤ 400 then fup (mAct I) 215 2 x else I
def qMApp (I : fM) (x : Int) : Int := if 1 ≤ x ∧ x ≤ 255 then (if I 214 6 = 160 then -13 else I 214 6 + 1) else -11
def gMApp (I : fM) (x : Int) : fM := if (1 ≤ x ∧ x ≤ 255) ∧ I 214 6 ≠ 160 then fup (fup I 218 (I 214 6) x) 214 6 (I 214 6 + 1) else I
def qMUndo (I : fM) : Int := if I 214 4 = 0 then -12 else I 214 4 - 1
def gMUndo (I : fM) : fM := if I 214 4 = 0 then I else fcpy (fup I 214 4 (I 214 4 - 1)) 217 (241 * (I 214 4 - 1)) 215 0 241
/-- how many words of an array are put -/
def mCnt (s : Int → Int) : Int := sSum (fun i => if s (13 + 19 * i + 4) ≠ -1 then 1 else 0) (s 0)
def qMTake (I : fM) (w : Int) : Int := if 0 ≤ w ∧ w < I 215 0 then (if I 215 (13 + 19 * w + 4) = -1 then -12 else mCnt (mOff I w 215)) else -11
def gMTake (I : fM) (w : Int) : fM := if (0 ≤ w ∧ w < I 215 0) ∧ I 215 (13 + 19 * w + 4) ≠ -1 then mOff (mAct I) w else I
theorem mOff_o {I : fM} {w : Int} {a : Nat} (h : a ≠ 215) : mOff I w a = I a := by
  unfold mOff
  rw [fup_ne h, fup_ne h]
theorem mLay_o {I : fM} {w la co : Int} {a : Nat} (h : a ≠ 215) : mLay I w la co a = I a := by
  unfold mLay
  rw [fup_ne h, fup_ne h]
theorem mOff_r {I J : fM} {w : Int} (h : I 215 = J 215) : mOff I w 215 = mOff J w 215 := by
  unfold mOff
  funext b
  unfold fup
  rw [h]
theorem mLay_r {I J : fM} {w la co : Int} (h : I 215 = J 215) : mLay I w la co 215 = mLay J w la co 215 := by
  unfold mLay
  funext b
  unfold fup
  rw [h]
theorem mOff_lo {I : fM} {w b : Int} (hw : 0 ≤ w) (h : b < 13) : mOff I w 215 b = I 215 b := by
  unfold mOff
  rw [fup_j (by omega), fup_j (by omega)]
theorem mLay_lo {I : fM} {w la co b : Int} (hw : 0 ≤ w) (h : b < 13) : mLay I w la co 215 b = I 215 b := by
  unfold mLay
  rw [fup_j (by omega), fup_j (by omega)]
theorem mOff_wv {I : fM} {w n : Int} (hw : 0 ≤ w) (h : ∀ v : Int, 0 ≤ v → v < n → mWv (mR I v)) : ∀ v : Int, 0 ≤ v → v < n → mWv (mR (mOff I w) v) := by
  intro v h0 h1
  by_cases e : v = w
  · subst e
    have k := h v h0 h1
    unfold mWv at *
    dsimp only [mR] at *
    unfold mOff
    rw [fup_j (j := 13 + 19 * v + 5) (b := 13 + 19 * v + 6) (by omega), fup_j (b := 13 + 19 * v + 6) (by omega), fup_j (j := 13 + 19 * v + 5) (b := 13 + 19 * v + 0) (by omega), fup_j (b := 13 + 19 * v + 0) (by omega), fup_j (j := 13 + 19 * v + 5) (b := 13 + 19 * v + 1) (by omega), fup_j (b := 13 + 19 * v + 1) (by omega), fup_j (j := 13 + 19 * v + 5) (b := 13 + 19 * v + 2) (by omega), fup_j (b := 13 + 19 * v + 2) (by omega), fup_j (j := 13 + 19 * v + 5) (b := 13 + 19 * v + 3) (by omega), fup_j (b := 13 + 19 * v + 3) (by omega), fup_j (j := 13 + 19 * v + 5) (b := 13 + 19 * v + 4) (by omega), fup_s, fup_s]
    exact ⟨k.1, k.2.1, k.2.2.1, k.2.2.2.1, k.2.2.2.2.1, by omega, by omega, fun z => absurd rfl z⟩
  · have k := h v h0 h1
    have e2 : mR (mOff I w) v = fun q => mOff I w 215 (13 + 19 * v + q) := rfl
    unfold mWv at *
    dsimp only [mR] at *
    unfold mOff
    rw [fup_j (j := 13 + 19 * w + 5) (b := 13 + 19 * v + 6) (by omega), fup_j (b := 13 + 19 * v + 6) (by omega), fup_j (j := 13 + 19 * w + 5) (b := 13 + 19 * v + 0) (by omega), fup_j (b := 13 + 19 * v + 0) (by omega), fup_j (j := 13 + 19 * w + 5) (b := 13 + 19 * v + 1) (by omega), fup_j (b := 13 + 19 * v + 1) (by omega), fup_j (j := 13 + 19 * w + 5) (b := 13 + 19 * v + 2) (by omega), fup_j (b := 13 + 19 * v + 2) (by omega), fup_j (j := 13 + 19 * w + 5) (b := 13 + 19 * v + 3) (by omega), fup_j (b := 13 + 19 * v + 3) (by omega), fup_j (j := 13 + 19 * w + 5) (b := 13 + 19 * v + 4) (by omega), fup_j (b := 13 + 19 * v + 4) (by omega), fup_j (j := 13 + 19 * w + 5) (b := 13 + 19 * v + 5) (by omega), fup_j (b := 13 + 19 * v + 5) (by omega)]
    exact k
theorem mWv_r {I J : fM} {n : Int} (h : I 215 = J 215) (k : ∀ v : Int, 0 ≤ v → v < n → mWv (mR J v)) : ∀ v : Int, 0 ≤ v → v < n → mWv (mR I v) := by
  intro v h0 h1
  have := k v h0 h1
  have e : mR I v = mR J v := by
    funext q
    show I 215 _ = J 215 _
    rw [h]
  rw [e]
  exact this
theorem qMShotOf_b {I : fM} {f : Int} (h : 0 ≤ I 215 1 ∧ I 215 1 ≤ 10) : -19 ≤ qMShotOf I f ∧ qMShotOf I f ≤ 10 ∧ (qMShotOf I f ≠ -19 → 0 ≤ qMShotOf I f ∧ qMShotOf I f < I 215 1) := by
  have k := (sF_is (c := fun i => I 215 (3 + i) = f) (a := 0) (b := I 215 1) h.1).1
  unfold qMShotOf
  split <;> omega
