/-! SPEC M3: the reference's public reads -/
theorem fup_id {I : fM} {k : Nat} {j x : Int} (h : I k j = x) : fup I k j x = I := by
  funext a b
  unfold fup
  split
  · rename_i q
    rw [q.1, q.2, h]
  · rfl
/-- the reference's state, as far as it is always so -/
def mOk (I : fM) : Prop := mSv I ∧ (∀ w : Int, 0 ≤ w → w < I 215 0 → mWv (mR I w)) ∧ I 214 0 = 0 ∧ (0 ≤ I 214 4 ∧ I 214 4 ≤ 5) ∧ (0 ≤ I 214 6 ∧ I 214 6 ≤ 160)
noncomputable abbrev mOn (I : fM) (w f : Int) : Bool := sOnB (I 215 2) (I 215 1) (fun i => I 215 (3 + i)) (mR I w) f
noncomputable abbrev mMet (I : fM) (a b : Int) : Int := sMetM (I 215 2) (I 215 1) (fun i => I 215 (3 + i)) (mR I a) (mR I b)
noncomputable def qMPairs (I : fM) : Int := sSum (fun a => sSum (fun b => if a < b ∧ mMet I a b ≠ -19 then 1 else 0) (I 215 0)) (I 215 0)
noncomputable def qMLast (I : fM) (w : Int) : Int := sF (fun f => ¬ mOn I w (f + 1) = true) (I 215 (13 + 19 * w + 0)) 4001
/-- whether a letter of word w stands in a cell -/
abbrev mHas (I : fM) (w row col f : Int) : Prop := mOn I w f = true ∧ sRowM (I 215 2) (mR I w) f = row ∧ sColM (I 215 2) (mR I w) f ≤ col ∧ col ≤ sColM (I 215 2) (mR I w) f + I 215 (13 + 19 * w + 6) - 1
noncomputable def qMIn (I : fM) (row col f : Int) : Int := if sF (fun w => mHas I w row col f) 0 (I 215 0) < I 215 0 then sF (fun w => mHas I w row col f) 0 (I 215 0) else -19
noncomputable def qMFilled (I : fM) (f : Int) : Int := if 0 ≤ f ∧ f ≤ 4000 then sSum (fun row => sSum (fun col => if qMIn I row col f ≠ -19 then 1 else 0) 40) 8 else -11
noncomputable def qMCount (I : fM) (what : Int) : Int := if what = 0 then I 215 0 else if what = 1 then sSum (fun i => if I 215 (13 + 19 * i + 4) ≠ -1 then 1 else 0) (I 215 0) else if what = 2 then I 215 1 else if what = 3 then I 215 2 else if what = 4 then qMPairs I else if what = 5 then I 214 4 else if what = 6 then I 214 6 else -11
noncomputable def qMWord (I : fM) (w what : Int) : Int := if (0 ≤ w ∧ w < I 215 0) ∧ 0 ≤ what ∧ what ≤ 7 then (if what = 7 then I 215 (13 + 19 * w + 6) else if 3 < what ∧ I 215 (13 + 19 * w + 4) = -1 then -19 else if what = 6 then qMLast I w else I 215 (13 + 19 * w + what)) else -11
def qMLetter (I : fM) (w i : Int) : Int := if (0 ≤ w ∧ w < I 215 0) ∧ 0 ≤ i then (if i < I 215 (13 + 19 * w + 6) then I 215 (13 + 19 * w + (7 + i)) else -19) else -11
def qMShot (I : fM) (i : Int) : Int := if i < 0 then -11 else if i < I 215 1 then I 215 (3 + i) else -19
noncomputable def qMWhere (I : fM) (w f what : Int) : Int := if (0 ≤ w ∧ w < I 215 0) ∧ (0 ≤ f ∧ f ≤ 4000) ∧ 0 ≤ what ∧ what ≤ 1 then (if mOn I w f = true then (if what = 0 then sRowM (I 215 2) (mR I w) f else if 0 ≤ sColM (I 215 2) (mR I w) f ∧ sColM (I 215 2) (mR I w) f ≤ 39 then sColM (I 215 2) (mR I w) f else sColM (I 215 2) (mR I w) f - 1000) else -19) else -11
noncomputable def qMWritten (I : fM) (row col f : Int) : Int := if (0 ≤ row ∧ row ≤ 7) ∧ (0 ≤ col ∧ col ≤ 39) ∧ 0 ≤ f ∧ f ≤ 4000 then (if qMIn I row col f = -19 then -19 else I 215 (13 + 19 * qMIn I row col f + (7 + col - sColM (I 215 2) (mR I (qMIn I row col f)) f))) else -11
noncomputable def qMMeeting (I : fM) (a b : Int) : Int := if (0 ≤ a ∧ a < I 215 0) ∧ (0 ≤ b ∧ b < I 215 0) ∧ a ≠ b then mMet I a b else -11
noncomputable def qMOnScreen (I : fM) (f : Int) : Int32 := if 0 ≤ f ∧ f ≤ 4000 then sSet (fun w => mOn I w f) (I 215 0) else i32 (-11)
def qMPaceF (I : fM) (f n : Int) : UInt32 := sPaceF (fun w => I 215 (13 + 19 * w + 6)) (fun w => I 215 (13 + 19 * w + 0)) (fun w => I 215 (13 + 19 * w + 1)) f n
def qMPace (I : fM) (f : Int) : Int := if 0 ≤ f ∧ f ≤ 4000 then (FP.f2i (FP.fmul (qMPaceF I f (I 215 0)) 1103626240)).toInt else -11
theorem qMLast_b {I : fM} {w : Int} (h : I 215 (13 + 19 * w + 0) ≤ 4001) : I 215 (13 + 19 * w + 0) ≤ qMLast I w ∧ qMLast I w ≤ 4001 := (sF_is h).1
theorem qMIn_b {I : fM} {row col f : Int} (h : 0 ≤ I 215 0 ∧ I 215 0 ≤ 12) : -19 ≤ qMIn I row col f ∧ qMIn I row col f ≤ 12 := by
  have := (sF_is (c := fun w => mHas I w row col f) (a := 0) (b := I 215 0) h.1).1
  unfold qMIn
  split <;> omega
theorem qMIn_has {I : fM} {row col f : Int} (h : 0 ≤ I 215 0 ∧ I 215 0 ≤ 12) (hn : qMIn I row col f ≠ -19) : (0 ≤ qMIn I row col f ∧ qMIn I row col f < I 215 0) ∧ mHas I (qMIn I row col f) row col f := by
  have k := sF_is (c := fun w => mHas I w row col f) (a := 0) (b := I 215 0) h.1
  unfold qMIn at *
  split at hn
  · rename_i hl
    rw [if_pos hl]
    exact ⟨⟨k.1.1, hl⟩, k.2.2 hl⟩
  · exact absurd rfl hn
theorem sSum_z {g : Int → Int} {n : Int} (hn : 0 ≤ n) (h : ∀ i, 0 ≤ i → i < n → g i = 0) : sSum g n = 0 := by
  have key : ∀ k : Nat, (k : Int) ≤ n → sSum g k = 0 := by
    intro k
    induction k with
    | zero => intro _; rfl
    | succ k ih =>
      intro hk
      have e : sSum g ((k + 1 : Nat) : Int) = sSum g k + g k := by rw [Int.natCast_succ]; exact sSum_s (by omega)
      rw [e, ih (by omega), h k (by omega) (by omega)]
      rfl
  have := key n.toNat (by omega)
  rw [show ((n.toNat : Nat) : Int) = n by omega] at this
  exact this
theorem sPairs_0 {I : fM} {a : Int} (h : 0 ≤ a) : sSum (fun b => if a < b ∧ mMet I a b ≠ -19 then 1 else 0) (a + 1) = 0 :=
  sSum_z (by omega) (fun i h1 h2 => if_neg (fun z => by omega))
