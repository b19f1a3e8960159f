/-! SPEC 2: where a word is, until when; first places -/
/-- the first place from a on, before b, where c holds; else b -/
def isF (c : Int → Prop) (a b r : Int) : Prop := (a ≤ r ∧ r ≤ b) ∧ (∀ i, a ≤ i → i < r → ¬ c i) ∧ (r < b → c r)
noncomputable def fF (c : Int → Prop) (a : Int) : Nat → Int
  | 0 => a
  | n + 1 => @ite _ (c a) (Classical.propDecidable _) a (fF c (a + 1) n)
theorem fF_is (c : Int → Prop) : ∀ (n : Nat) (a : Int), isF c a (a + n) (fF c a n) := by
  intro n
  induction n with
  | zero =>
    intro a
    refine ⟨⟨by show a ≤ a; omega, by show a ≤ a + ((0 : Nat) : Int); omega⟩, fun i h1 h2 => ?_, fun h => ?_⟩
    · have h3 : i < a := h2
      omega
    · have h3 : a < a + ((0 : Nat) : Int) := h
      omega
  | succ n ih =>
    intro a
    have e : fF c a (n + 1) = @ite _ (c a) (Classical.propDecidable _) a (fF c (a + 1) n) := rfl
    by_cases h : c a
    · rw [e, if_pos h]
      exact ⟨⟨by omega, by omega⟩, fun i h1 h2 => by omega, fun _ => h⟩
    · rw [e, if_neg h]
      obtain ⟨⟨h1, h2⟩, h3, h4⟩ := ih (a + 1)
      refine ⟨⟨by omega, by omega⟩, fun i i1 i2 => ?_, fun z => h4 (by omega)⟩
      by_cases q : i = a
      · rw [q]; exact h
      · exact h3 i (by omega) i2
theorem isF_un {c : Int → Prop} {a b r t : Int} (h : isF c a b r) (k : isF c a b t) : r = t := by
  obtain ⟨⟨h1, h2⟩, h3, h4⟩ := h
  obtain ⟨⟨k1, k2⟩, k3, k4⟩ := k
  rcases Int.lt_trichotomy r t with q | q | q
  · exact absurd (h4 (by omega)) (k3 r h1 q)
  · exact q
  · exact absurd (k4 (by omega)) (h3 t k1 q)
/-- the first place in [a, b) where c holds, else b -/
noncomputable def sF (c : Int → Prop) (a b : Int) : Int := fF c a (b - a).toNat
theorem sF_is {c : Int → Prop} {a b : Int} (h : a ≤ b) : isF c a b (sF c a b) := by
  have := fF_is c (b - a).toNat a
  rw [show a + ((b - a).toNat : Int) = b by omega] at this
  exact this
theorem sF_eq {c : Int → Prop} {a b r : Int} (h : isF c a b r) : sF c a b = r := isF_un (sF_is (by have := h.1; omega)) h
theorem isF_step {c : Int → Prop} {a b r i : Int} (h : isF c a b r) (hi : i ≤ r) (hb : i < b) (hn : ¬ c i) : i + 1 ≤ r := by
  rcases Int.lt_or_le i r with z | z
  · omega
  · have e : r = i := by omega
    exact absurd (h.2.2 (by omega)) (by rw [e]; exact hn)
theorem isF_hit {c : Int → Prop} {a b r i : Int} (h : isF c a b r) (ha : a ≤ i) (hi : i ≤ r) (hc : c i) : r = i := by
  rcases Int.lt_or_le i r with z | z
  · exact absurd hc (h.2.1 i ha z)
  · omega
theorem isF_end {c : Int → Prop} {a b r i : Int} (h : isF c a b r) (hi : i ≤ r) (hb : b ≤ i) : r = b := by
  have := h.1
  omega
/-- the row, the column of a word's first letter in a frame; r is the word object's row -/
def sRowX (pct : Int) (r : Int → Int) (f : Int) : Int := if r 5 = 3 then r 7 - sMv pct (f + 1 - (r 2 + r 3 + r 4)) else if r 5 = 4 then r 7 + sMv pct (f + 1 - (r 2 + r 3 + r 4)) else r 7
def sColX (pct : Int) (r : Int → Int) (f : Int) : Int := if r 5 = 1 then r 8 - sMv pct (f + 1 - (r 2 + r 3 + r 4)) else if r 5 = 2 then r 8 + sMv pct (f + 1 - (r 2 + r 3 + r 4)) else r 8
noncomputable def sStl (pct cells : Int) : Int := sF (fun i => cells ≤ sMv pct i) 1 80
def sLeaveR (r : Int → Int) : Int := if r 5 = 1 then r 8 + r 1 else if r 5 = 2 then 40 - r 8 else if r 5 = 3 then r 7 + 1 else 8 - r 7
noncomputable def sGone (pct n : Int) (sh r : Int → Int) : Int :=
  if sF (fun i => r 2 < sh i) 0 n < n then min (r 2 + r 3 + r 4 + (if r 5 = 0 then 0 else sStl pct (sLeaveR r) - 1)) (sh (sF (fun i => r 2 < sh i) 0 n)) else r 2 + r 3 + r 4 + (if r 5 = 0 then 0 else sStl pct (sLeaveR r) - 1)
/-- a scene's numbers -/
def fSv (I : fM) (sc : Nat) : Prop := (0 ≤ I sc 1 ∧ I sc 1 ≤ 12) ∧ (0 ≤ I sc 3 ∧ I sc 3 ≤ 10) ∧ (50 ≤ I sc 4 ∧ I sc 4 ≤ 400) ∧ ∀ i, 0 ≤ i → i < I sc 3 → 1 ≤ I (sc + 2) i ∧ I (sc + 2) i ≤ 3000
theorem sMv_r (pct i : Int) : -2147483648 ≤ sMv pct i ∧ sMv pct i ≤ 2147483647 := by
  unfold sMv
  split
  · omega
  · have h1 := (FP.f2i (FP.fmul (FP.i2f (i32 i)) (FP.fdiv (FP.i2f (i32 pct)) 1120403456))).le_toInt
    have h2 := (FP.f2i (FP.fmul (FP.i2f (i32 i)) (FP.fdiv (FP.i2f (i32 pct)) 1120403456))).toInt_lt
    omega
theorem sMv_1 {pct i : Int} (h : i < 1) : sMv pct i = 0 := by unfold sMv; rw [if_pos h]
/-- two words' letters lie in a same cell of the screen in a frame, where both are on it -/
abbrev sShare (pct : Int) (r q : Int → Int) (f : Int) : Prop := sRowX pct r f = sRowX pct q f ∧ max 0 (max (sColX pct r f) (sColX pct q f)) < min 40 (min (sColX pct r f + r 1) (sColX pct q f + q 1))
theorem sGone_b {I : fM} {sc k : Nat} (hv : fSv I sc) (hw : fWv I k) (hp : I k 6 = 1) : 0 ≤ sGone (I sc 4) (I sc 3) (I (sc + 2)) (I k) ∧ sGone (I sc 4) (I sc 3) (I (sc + 2)) (I k) ≤ 2300 := by
  obtain ⟨hv1, hv3, hv4, hvs⟩ := hv
  obtain ⟨hw1, hw2, hw3, hw4, hw5, hw6, hw7⟩ := hw
  have h1 := (sF_is (c := fun i => sLeaveR (I k) ≤ sMv (I sc 4) i) (a := 1) (b := 80) (by omega)).1
  have h2 := (sF_is (c := fun i => I k 2 < I (sc + 2) i) (a := 0) (b := I sc 3) (by omega)).1
  unfold sGone sStl
  by_cases hc : sF (fun i => I k 2 < I (sc + 2) i) 0 (I sc 3) < I sc 3
  · have h3 := hvs _ h2.1 hc
    rw [if_pos hc]
    split <;> omega
  · rw [if_neg hc]
    split <;> omega
theorem sRowX_b {I : fM} {pct f : Int} {k : Nat} (hv4 : 50 ≤ pct ∧ pct ≤ 400) (hw : fWv I k) (hf : 0 ≤ f ∧ f ≤ 4001) (hp : I k 6 = 1) : -200000 ≤ sRowX pct (I k) f ∧ sRowX pct (I k) f ≤ 200000 := by
  obtain ⟨hw1, hw2, hw3, hw4, hw5, hw6, hw7⟩ := hw
  have := sMv_b (i := f + 1 - (I k 2 + I k 3 + I k 4)) hv4 (by omega)
  unfold sRowX
  (repeat' split) <;> omega
theorem sColX_b {I : fM} {pct f : Int} {k : Nat} (hv4 : 50 ≤ pct ∧ pct ≤ 400) (hw : fWv I k) (hf : 0 ≤ f ∧ f ≤ 4001) (hp : I k 6 = 1) : -200000 ≤ sColX pct (I k) f ∧ sColX pct (I k) f ≤ 200000 := by
  obtain ⟨hw1, hw2, hw3, hw4, hw5, hw6, hw7⟩ := hw
  have := sMv_b (i := f + 1 - (I k 2 + I k 3 + I k 4)) hv4 (by omega)
  unfold sColX
  (repeat' split) <;> omega
