/-! SPEC 1: the objects' numbers; what the leaves answer -/
/-- a scene's number: the present one, the draft, the five of the history -/
def fSc (sc : Nat) : Prop := sc = 1 ∨ sc = 31 ∨ ∃ j, j < 5 ∧ sc = 62 + 30 * j
def fSk (sc : Nat) : Prop := sc + 30 ≤ 212 ∧ fkd sc = 0 ∧ fkd (sc + 1) = 11 ∧ fkd (sc + 2) = 6 ∧ fkd (sc + 3) = 2 ∧ fkd (sc + 4) = 5 ∧ fkd (sc + 5) = 5
/-- a word's number -/
def fWd (k : Nat) : Prop := k + 1 < 212 ∧ fkd k = 2 ∧ fkd (k + 1) = 5
theorem fSc_of {Q : Nat → Prop} (h1 : Q 1) (h2 : Q 31) (h3 : ∀ j, j < 5 → Q (62 + 30 * j)) {sc : Nat} (h : fSc sc) : Q sc := by
  rcases h with rfl | rfl | ⟨j, hj, rfl⟩
  · exact h1
  · exact h2
  · exact h3 j hj
theorem fSc_k {sc : Nat} (h : fSc sc) : fSk sc := by
  refine fSc_of (Q := fSk) ?_ ?_ ?_ h
  · unfold fSk; decide
  · unfold fSk; decide
  · unfold fSk; decide
theorem fSc_w {sc : Nat} (h : fSc sc) : ∀ j, j < 12 → fWd (sc + 6 + 2 * j) := by
  refine fSc_of (Q := fun sc => ∀ j, j < 12 → fWd (sc + 6 + 2 * j)) ?_ ?_ ?_ h
  · unfold fWd; decide
  · unfold fWd; decide
  · unfold fWd; decide
theorem fSc_t {sc : Nat} (h : fSc sc) : fWd (sc + 3) := by
  obtain ⟨h1, h2, h3, h4, h5, h6, h7⟩ := fSc_k h
  exact ⟨by omega, h5, h6⟩
theorem fSc_1 : fSc 1 := Or.inl rfl
theorem fSc_31 : fSc 31 := Or.inr (Or.inl rfl)
theorem fSc_h {j : Nat} (h : j < 5) : fSc (62 + 30 * j) := Or.inr (Or.inr ⟨j, h, rfl⟩)
/-- a scene's row of words: twelve different ones of its own -/
def fPs (P : fN) (sc : Nat) : Prop := (∀ w : Int, 0 ≤ w → w < 12 → ∃ j : Nat, j < 12 ∧ P (sc + 1) w = sc + 6 + 2 * j) ∧ ∀ v w : Int, 0 ≤ v → v < 12 → 0 ≤ w → w < 12 → P (sc + 1) v = P (sc + 1) w → v = w
theorem fPs_w {P : fN} {sc : Nat} (h : fSc sc) (hP : fPs P sc) {w : Int} (h0 : 0 ≤ w) (h1 : w < 12) : fWd (P (sc + 1) w) := by
  obtain ⟨j, hj, e⟩ := hP.1 w h0 h1
  rw [e]
  exact fSc_w h j hj
/-- what the fields of a word are, where it is a word of the state -/
def fWv (I : fM) (k : Nat) : Prop := (1 ≤ I k 1 ∧ I k 1 ≤ 12) ∧ (0 ≤ I k 2 ∧ I k 2 ≤ 2000) ∧ (1 ≤ I k 3 ∧ I k 3 ≤ 60) ∧ (0 ≤ I k 4 ∧ I k 4 ≤ 60) ∧ (0 ≤ I k 5 ∧ I k 5 ≤ 4) ∧ (I k 6 = 0 ∨ I k 6 = 1) ∧ (I k 6 = 1 → (0 ≤ I k 7 ∧ I k 7 ≤ 7) ∧ 0 ≤ I k 8 ∧ I k 8 + I k 1 ≤ 40)
def sBetw (v lo hi : Int) : Bool := decide (lo ≤ v ∧ v ≤ hi)
def sAllowed (what v : Int) : Bool := decide ((what = 0 ∧ 0 ≤ v ∧ v ≤ 2000) ∨ (what = 1 ∧ 1 ≤ v ∧ v ≤ 60) ∨ (what = 2 ∧ 0 ≤ v ∧ v ≤ 60) ∨ (what = 3 ∧ 0 ≤ v ∧ v ≤ 4))
/-- by how many cells in i steps at a percent -/
def sMv (pct i : Int) : Int := if i < 1 then 0 else (FP.f2i (FP.fmul (FP.i2f (i32 i)) (FP.fdiv (FP.i2f (i32 pct)) 1120403456))).toInt
def sLeave (I : fM) (k : Nat) : Int := if I k 5 = 1 then I k 8 + I k 1 else if I k 5 = 2 then 40 - I k 8 else if I k 5 = 3 then I k 7 + 1 else 8 - I k 7
def fcw (I : fM) (k k2 : Nat) : fM := fun a b => if a = k ∧ 1 ≤ b ∧ b ≤ 8 then I k2 b else if a = k + 1 ∧ 0 ≤ b ∧ b < 12 then I (k2 + 1) b else I a b
