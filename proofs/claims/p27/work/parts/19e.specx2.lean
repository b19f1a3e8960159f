/-! SPEC X2: what the class's writes leave -/
theorem fSc_dis {sc sd : Nat} (h : fSc sc) (k : fSc sd) (hn : sc ≠ sd) : sc + 30 ≤ sd ∨ sd + 30 ≤ sc := by
  rcases h with rfl | rfl | ⟨j, hj, rfl⟩ <;> rcases k with rfl | rfl | ⟨i, hi, rfl⟩ <;> omega
/-- a word's cells hold what another's did -/
def wEq (I : fM) (k : Nat) (J : fM) (d : Nat) : Prop := (∀ b : Int, 1 ≤ b → b ≤ 8 → J d b = I k b) ∧ ∀ b : Int, 0 ≤ b → b < 12 → J (d + 1) b = I (k + 1) b
/-- a scene holds what another did -/
def vEq (I : fM) (P : fN) (sc : Nat) (J : fM) (Q : fN) (sd : Nat) : Prop := J sd 1 = I sc 1 ∧ J sd 3 = I sc 3 ∧ J sd 4 = I sc 4 ∧ (∀ i : Int, 0 ≤ i → i < 10 → J (sd + 2) i = I (sc + 2) i) ∧ ∀ w : Int, 0 ≤ w → w < I sc 1 → wEq I (P (sc + 1) w) J (Q (sd + 1) w)
/-- nothing has changed but a scene's cells -/
def fOut (I J : fM) (sd : Nat) : Prop := ∀ a : Nat, (a < sd ∨ sd + 30 ≤ a) → J a = I a
theorem fcw_w (I : fM) {k k2 : Nat} (h : k ≠ k2 + 1) : wEq I k2 (fcw I k k2) k := by
  refine ⟨fun b h1 h2 => ?_, fun b h1 h2 => ?_⟩
  · unfold fcw
    rw [if_pos ⟨rfl, h1, h2⟩]
  · unfold fcw
    rw [if_neg (by omega), if_pos ⟨rfl, h1, h2⟩]
theorem fcw_o {I : fM} {k k2 a : Nat} (h : a ≠ k) (h2 : a ≠ k + 1) : fcw I k k2 a = I a := by
  funext b
  unfold fcw
  rw [if_neg (fun z => h z.1), if_neg (fun z => h2 z.1)]
theorem fcw_eq {I : fM} {k k2 : Nat} : fup (fup (fup (fup (fup (fup (fup (fup (fcpy I (k2 + 1) 0 (k + 1) 0 12) k 1 (I k2 1)) k 2 (I k2 2)) k 3 (I k2 3)) k 4 (I k2 4)) k 5 (I k2 5)) k 6 (I k2 6)) k 7 (I k2 7)) k 8 (I k2 8) = fcw I k k2 := by
  funext a b
  unfold fcw
  by_cases h : a = k ∧ 1 ≤ b ∧ b ≤ 8
  · rw [if_pos h]
    obtain ⟨rfl, h1, h2⟩ := h
    have h3 : b = 1 ∨ b = 2 ∨ b = 3 ∨ b = 4 ∨ b = 5 ∨ b = 6 ∨ b = 7 ∨ b = 8 := by omega
    rcases h3 with rfl | rfl | rfl | rfl | rfl | rfl | rfl | rfl <;> simp [fup]
  · rw [if_neg h]
    have n : ∀ j : Int, 1 ≤ j → j ≤ 8 → ¬ (a = k ∧ b = j) := fun j h1 h2 z => h ⟨z.1, by omega, by omega⟩
    unfold fup
    rw [if_neg (n 8 (by decide) (by decide)), if_neg (n 7 (by decide) (by decide)), if_neg (n 6 (by decide) (by decide)), if_neg (n 5 (by decide) (by decide)), if_neg (n 4 (by decide) (by decide)), if_neg (n 3 (by decide) (by decide)), if_neg (n 2 (by decide) (by decide)), if_neg (n 1 (by decide) (by decide))]
    unfold fcpy
    by_cases h2 : a = k + 1 ∧ 0 ≤ b ∧ b < 12
    · rw [if_pos h2, if_pos ⟨h2.1, by omega, by omega⟩]
      congr 1
      omega
    · rw [if_neg h2, if_neg (by omega)]
/-- the words copied so far -/
theorem cp_step {I J : fM} {P : fN} {sc sd : Nat} {i : Int} (hs : fSc sc) (hd : fSc sd) (hn : sc ≠ sd) (hp : fPs P sc) (hq : fPs P sd) (h0 : 0 ≤ i) (h1 : i < 12) (hw : ∀ w : Int, 0 ≤ w → w < i → wEq I (P (sc + 1) w) J (P (sd + 1) w)) (ho : fOut I J sd) : ∀ w : Int, 0 ≤ w → w < i + 1 → wEq I (P (sc + 1) w) (fcw J (P (sd + 1) i) (P (sc + 1) i)) (P (sd + 1) w) := by
  obtain ⟨j1, hj1, e1⟩ := hp.1 i h0 h1
  obtain ⟨j2, hj2, e2⟩ := hq.1 i h0 h1
  have hd2 := fSc_dis hs hd hn
  intro w w0 w1
  by_cases e : w = i
  · subst e
    have h2 := fcw_w J (k := P (sd + 1) w) (k2 := P (sc + 1) w) (by omega)
    have e3 : J (P (sc + 1) w) = I (P (sc + 1) w) := ho _ (by omega)
    have e4 : J (P (sc + 1) w + 1) = I (P (sc + 1) w + 1) := ho _ (by omega)
    exact ⟨fun b b1 b2 => by rw [h2.1 b b1 b2, e3], fun b b1 b2 => by rw [h2.2 b b1 b2, e4]⟩
  · have h2 := hw w w0 (by omega)
    obtain ⟨j3, hj3, e3⟩ := hq.1 w w0 (by omega)
    have hne : P (sd + 1) w ≠ P (sd + 1) i := fun z => e (hq.2 w i w0 (by omega) h0 h1 z)
    refine ⟨fun b b1 b2 => ?_, fun b b1 b2 => ?_⟩
    · rw [fcw_o hne (by omega)]
      exact h2.1 b b1 b2
    · rw [fcw_o (by omega) (by omega)]
      exact h2.2 b b1 b2
theorem cp_out {I J : fM} {P : fN} {sd : Nat} {i : Int} {k2 : Nat} (hd : fSc sd) (hq : fPs P sd) (h0 : 0 ≤ i) (h1 : i < 12) (ho : fOut I J sd) : fOut I (fcw J (P (sd + 1) i) k2) sd := by
  obtain ⟨j2, hj2, e2⟩ := hq.1 i h0 h1
  intro a ha
  rw [fcw_o (by omega) (by omega)]
  exact ho a ha
theorem fOut_up {I J : fM} {sd k : Nat} {j x : Int} (h : fOut I J sd) (hk : sd ≤ k ∧ k < sd + 30) : fOut I (fup J k j x) sd := by
  intro a ha
  rw [fup_ne (by omega)]
  exact h a ha
theorem fOut_cp {I J : fM} {sd k1 k : Nat} {sp dp n : Int} (h : fOut I J sd) (hk : sd ≤ k ∧ k < sd + 30) : fOut I (fcpy J k1 sp k dp n) sd := by
  intro a ha
  funext b
  rw [fcpy_k (by omega), h a ha]
theorem wEq_k {I J : fM} {k d a : Nat} {j x : Int} (h : wEq I k J d) (h1 : d ≠ a) (h2 : d + 1 ≠ a) : wEq I k (fup J a j x) d := ⟨fun b b1 b2 => by rw [fup_k h1]; exact h.1 b b1 b2, fun b b1 b2 => by rw [fup_k h2]; exact h.2 b b1 b2⟩
theorem wEq_c {I J : fM} {k d a k1 : Nat} {sp dp n : Int} (h : wEq I k J d) (h1 : d ≠ a) (h2 : d + 1 ≠ a) : wEq I k (fcpy J k1 sp a dp n) d := ⟨fun b b1 b2 => by rw [fcpy_k h1]; exact h.1 b b1 b2, fun b b1 b2 => by rw [fcpy_k h2]; exact h.2 b b1 b2⟩
/-- all of a scene has been copied -/
theorem cp_all {I J : fM} {P : fN} {sc sd : Nat} (hs : fSc sc) (hd : fSc sd) (hn : sc ≠ sd) (hq : fPs P sd) (hc : 0 ≤ I sc 1 ∧ I sc 1 ≤ 12) (hw : ∀ w : Int, 0 ≤ w → w < I sc 1 → wEq I (P (sc + 1) w) J (P (sd + 1) w)) (ho : fOut I J sd) : vEq I P sc (fup (fup (fcpy (fup J sd 1 (I sc 1)) (sc + 2) 0 (sd + 2) 0 10) sd 3 (I sc 3)) sd 4 (I sc 4)) P sd ∧ fOut I (fup (fup (fcpy (fup J sd 1 (I sc 1)) (sc + 2) 0 (sd + 2) 0 10) sd 3 (I sc 3)) sd 4 (I sc 4)) sd := by
  have hd2 := fSc_dis hs hd hn
  refine ⟨⟨?_, ?_, ?_, fun i h0 h1 => ?_, fun w h0 h1 => ?_⟩, fOut_up (fOut_up (fOut_cp (fOut_up ho (by omega)) (by omega)) (by omega)) (by omega)⟩
  · rw [fup_j (by decide), fup_j (by decide), fcpy_k (by omega), fup_s]
  · rw [fup_j (by decide), fup_s]
  · rw [fup_s]
  · rw [fup_k (by omega), fup_k (by omega), fcpy_at (by omega), fup_k (by omega), ho (sc + 2) (by omega)]
    congr 1
    omega
  · obtain ⟨j, hj, e⟩ := hq.1 w h0 (by omega)
    exact wEq_k (wEq_k (wEq_c (wEq_k (hw w h0 h1) (by omega) (by omega)) (by omega) (by omega)) (by omega) (by omega)) (by omega) (by omega)
