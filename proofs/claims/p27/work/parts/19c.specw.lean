/-! SPEC W: what writes leave -/
theorem fcpy_0 (I : fM) (k1 : Nat) (sp : Int) (k2 : Nat) (dp : Int) : fcpy I k1 sp k2 dp 0 = I := by
  funext a b
  unfold fcpy
  rw [if_neg (by omega)]
theorem fcpy_s {I : fM} {k1 : Nat} {sp : Int} {k2 : Nat} {dp n : Int} (h : k1 ≠ k2 ∨ dp ≤ sp) (h0 : 0 ≤ n) : fup (fcpy I k1 sp k2 dp n) k2 (dp + n) (fcpy I k1 sp k2 dp n k1 (sp + n)) = fcpy I k1 sp k2 dp (n + 1) := by
  funext a b
  have e : fcpy I k1 sp k2 dp n k1 (sp + n) = I k1 (sp + n) := by
    unfold fcpy
    rw [if_neg (by omega)]
  rw [e]
  unfold fup fcpy
  by_cases h1 : a = k2 ∧ b = dp + n
  · rw [if_pos h1, if_pos ⟨h1.1, by omega, by omega⟩, h1.2]
    congr 1
    omega
  · rw [if_neg h1]
    by_cases h2 : a = k2 ∧ dp ≤ b ∧ b < dp + n
    · rw [if_pos h2, if_pos ⟨h2.1, by omega, by omega⟩]
    · rw [if_neg h2, if_neg (fun z => by
        by_cases e2 : b = dp + n
        · exact h1 ⟨z.1, e2⟩
        · exact h2 ⟨z.1, z.2.1, by omega⟩)]
theorem fcpy_at {I : fM} {k1 : Nat} {sp : Int} {k2 : Nat} {dp n : Int} {b : Int} (h : dp ≤ b ∧ b < dp + n) : fcpy I k1 sp k2 dp n k2 b = I k1 (sp + (b - dp)) := by
  unfold fcpy
  rw [if_pos ⟨rfl, h⟩]
theorem fcpy_k {I : fM} {k1 : Nat} {sp : Int} {k2 : Nat} {dp n : Int} {a : Nat} {b : Int} (h : a ≠ k2) : fcpy I k1 sp k2 dp n a b = I a b := by
  unfold fcpy
  rw [if_neg (fun z => h z.1)]
theorem fcpy_o {I : fM} {k1 : Nat} {sp : Int} {k2 : Nat} {dp n : Int} {b : Int} (h : b < dp ∨ dp + n ≤ b) : fcpy I k1 sp k2 dp n k2 b = I k2 b := by
  unfold fcpy
  rw [if_neg (by omega)]
/-- the rows 215 and 216 exchanged up to place n -/
def fxch (I : fM) (n : Int) : fM := fun a b => if a = 215 ∧ 0 ≤ b ∧ b < n then I 216 b else if a = 216 ∧ 0 ≤ b ∧ b < n then I 215 b else I a b
theorem fxch_0 (I : fM) : fxch I 0 = I := by
  funext a b
  unfold fxch
  rw [if_neg (by omega), if_neg (by omega)]
theorem fxch_s {I : fM} {n : Int} (h0 : 0 ≤ n) : fup (fup (fxch I n) 215 n (fxch I n 216 n)) 216 n (fxch I n 215 n) = fxch I (n + 1) := by
  have e1 : fxch I n 216 n = I 216 n := by unfold fxch; rw [if_neg (by omega), if_neg (by omega)]
  have e2 : fxch I n 215 n = I 215 n := by unfold fxch; rw [if_neg (by omega), if_neg (by omega)]
  rw [e1, e2]
  funext a b
  unfold fup fxch
  by_cases h1 : a = 216 ∧ b = n
  · rw [if_pos h1, if_neg (by omega), if_pos (by omega), h1.2]
  · rw [if_neg h1]
    by_cases h2 : a = 215 ∧ b = n
    · rw [if_pos h2, if_pos (by omega), h2.2]
    · rw [if_neg h2]
      by_cases h3 : a = 215 ∧ 0 ≤ b ∧ b < n
      · rw [if_pos h3, if_pos (by omega)]
      · have h5 : ¬ (a = 215 ∧ 0 ≤ b ∧ b < n + 1) := by omega
        rw [if_neg h3]
        by_cases h4 : a = 216 ∧ 0 ≤ b ∧ b < n
        · rw [if_pos h4, if_neg h5, if_pos (by omega)]
        · rw [if_neg h4, if_neg h5, if_neg (by omega)]
/-- the reference's act: its array goes behind the saved ones; of five the first goes -/
def mAct (I : fM) : fM := if I 214 4 = 5 then fup (fcpy (fup (fcpy I 217 241 217 0 964) 214 4 4) 215 0 217 964 241) 214 4 5 else fup (fcpy I 215 0 217 (241 * I 214 4) 241) 214 4 (I 214 4 + 1)
theorem mAct_o {I : fM} {a : Nat} (h : a ≠ 217) (h2 : a ≠ 214) : mAct I a = I a := by
  funext b
  unfold mAct
  split
  · rw [fup_k h2, fcpy_k h, fup_k h2, fcpy_k h]
  · rw [fup_k h2, fcpy_k h]
theorem mAct_4 {I : fM} {b : Int} (h : b ≠ 4) : mAct I 214 b = I 214 b := by
  unfold mAct
  split
  · rw [fup_j h, fcpy_k (by decide), fup_j h, fcpy_k (by decide)]
  · rw [fup_j h, fcpy_k (by decide)]
/-- the reference's new word -/
def mMake (I : fM) (many f sp he way : Int) : fM := fup (fup (fup (fup (fup (fup (fup (fup I 215 (13 + 19 * I 215 0 + 6) many) 215 (13 + 19 * I 215 0 + 0) f) 215 (13 + 19 * I 215 0 + 1) sp) 215 (13 + 19 * I 215 0 + 2) he) 215 (13 + 19 * I 215 0 + 3) way) 215 (13 + 19 * I 215 0 + 4) (-1)) 215 (13 + 19 * I 215 0 + 5) (-1)) 215 0 (I 215 0 + 1)
/-- the first letters of the alphabet -/
def mLet (I : fM) (k : Nat) (o n : Int) : fM := fun a b => if a = k ∧ o ≤ b ∧ b < o + n then 97 + (b - o) else I a b
theorem mLet_0 (I : fM) (k : Nat) (o : Int) : mLet I k o 0 = I := by
  funext a b
  unfold mLet
  rw [if_neg (by omega)]
theorem mLet_s {I : fM} {k : Nat} {o n : Int} (h0 : 0 ≤ n) : fup (mLet I k o n) k (o + n) (97 + n) = mLet I k o (n + 1) := by
  funext a b
  unfold fup mLet
  by_cases h1 : a = k ∧ b = o + n
  · rw [if_pos h1, if_pos ⟨h1.1, by omega, by omega⟩]
    omega
  · rw [if_neg h1]
    by_cases h2 : a = k ∧ o ≤ b ∧ b < o + n
    · rw [if_pos h2, if_pos ⟨h2.1, by omega, by omega⟩]
    · rw [if_neg h2, if_neg (fun z => by
        by_cases e2 : b = o + n
        · exact h1 ⟨z.1, e2⟩
        · exact h2 ⟨z.1, z.2.1, by omega⟩)]
/-- where a new shot goes: behind those that are not later -/
def pIns (sh : Int → Int) (f : Int) : Nat → Nat
  | 0 => 0
  | n + 1 => if f < sh n then pIns sh f n else n + 1
/-- a shot put in its order, in row k from place o on -/
def fIns (I : fM) (k : Nat) (o n p f : Int) : fM := fun a b => if a = k ∧ o + p < b ∧ b ≤ o + n then I k (b - 1) else if a = k ∧ b = o + p then f else I a b
/-- the shots behind place p have been moved on -/
def fMov (I : fM) (k : Nat) (o n p : Int) : fM := fun a b => if a = k ∧ o + p < b ∧ b ≤ o + n then I k (b - 1) else I a b
theorem fMov_0 (I : fM) (k : Nat) (o n : Int) : fMov I k o n n = I := by
  funext a b
  unfold fMov
  rw [if_neg (by omega)]
theorem fMov_s {I : fM} {k : Nat} {o n p : Int} (hp : p < n) : fup (fMov I k o n (p + 1)) k (o + (p + 1)) (fMov I k o n (p + 1) k (o + p)) = fMov I k o n p := by
  have e : fMov I k o n (p + 1) k (o + p) = I k (o + p) := by unfold fMov; rw [if_neg (by omega)]
  rw [e]
  funext a b
  unfold fup fMov
  by_cases h1 : a = k ∧ b = o + (p + 1)
  · rw [if_pos h1, if_pos ⟨h1.1, by omega, by omega⟩, h1.2]
    congr 1
    omega
  · rw [if_neg h1]
    by_cases h2 : a = k ∧ o + (p + 1) < b ∧ b ≤ o + n
    · rw [if_pos h2, if_pos ⟨h2.1, by omega, by omega⟩]
    · rw [if_neg h2, if_neg (fun z => by
        by_cases e2 : b = o + (p + 1)
        · exact h1 ⟨z.1, e2⟩
        · exact h2 ⟨z.1, by omega, z.2.2⟩)]
theorem fMov_e {I : fM} {k : Nat} {o n p f : Int} (hp : p ≤ n) : fup (fMov I k o n p) k (o + p) f = fIns I k o n p f := by
  funext a b
  unfold fup fMov fIns
  by_cases h1 : a = k ∧ b = o + p
  · rw [if_pos h1, if_neg (by omega), if_pos h1]
  · rw [if_neg h1]
    by_cases h2 : a = k ∧ o + p < b ∧ b ≤ o + n
    · rw [if_pos h2, if_pos h2]
    · rw [if_neg h2, if_neg h2, if_neg h1]
noncomputable def qMShotOf (I : fM) (f : Int) : Int := if sF (fun i => I 215 (3 + i) = f) 0 (I 215 1) < I 215 1 then sF (fun i => I 215 (3 + i) = f) 0 (I 215 1) else -19
theorem pIns_le (sh : Int → Int) (f : Int) : ∀ n, pIns sh f n ≤ n := by
  intro n
  induction n with
  | zero => exact Nat.le_refl _
  | succ n ih =>
    show (if f < sh n then pIns sh f n else n + 1) ≤ n + 1
    split <;> omega
theorem pIns_go {sh : Int → Int} {f : Int} {n : Int} (h0 : 0 < n) (h : f < sh (n - 1)) : pIns sh f n.toNat = pIns sh f (n - 1).toNat := by
  obtain ⟨k, hk⟩ : ∃ k : Nat, n.toNat = k + 1 := ⟨n.toNat - 1, by omega⟩
  rw [hk, show (n - 1).toNat = k by omega]
  show (if f < sh k then pIns sh f k else k + 1) = _
  rw [if_pos (by rw [show (k : Int) = n - 1 by omega]; exact h)]
theorem pIns_stop {sh : Int → Int} {f : Int} {n : Int} (h0 : 0 ≤ n) (h : n ≤ 0 ∨ ¬ f < sh (n - 1)) : (pIns sh f n.toNat : Int) = n := by
  rcases h with h | h
  · rw [show n = 0 by omega]
    rfl
  · by_cases hn : n = 0
    · rw [hn]
      rfl
    · obtain ⟨k, hk⟩ : ∃ k : Nat, n.toNat = k + 1 := ⟨n.toNat - 1, by omega⟩
      rw [hk]
      show ((if f < sh k then pIns sh f k else k + 1 : Nat) : Int) = _
      rw [if_neg (by rw [show (k : Int) = n - 1 by omega]; exact h)]
      omega
theorem fMov_d {I : fM} {k : Nat} {o n p : Int} (hp : p ≤ n) : fup (fMov I k o n p) k (o + p) (fMov I k o n p k (o + p - 1)) = fMov I k o n (p + (-1)) := by
  have e := fMov_s (I := I) (k := k) (o := o) (n := n) (p := p - 1) (by omega)
  rw [show p - 1 + 1 = p by omega, show o + (p - 1) = o + p - 1 by omega] at e
  rw [show p + (-1) = p - 1 by omega]
  exact e
