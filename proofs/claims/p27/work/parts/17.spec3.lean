/-! SPEC 3: when two words meet -/
noncomputable def sMeet (pct n : Int) (sh r q : Int → Int) : Int :=
  if r 6 = 1 ∧ q 6 = 1 then (if sF (fun f => sShare pct r q f) (max (r 2) (q 2)) (min (sGone pct n sh r) (sGone pct n sh q)) < min (sGone pct n sh r) (sGone pct n sh q) then sF (fun f => sShare pct r q f) (max (r 2) (q 2)) (min (sGone pct n sh r) (sGone pct n sh q)) else -19) else -19
theorem sRowX_s {pct f : Int} {r : Int → Int} (h : f < r 2 + r 3 + r 4) : sRowX pct r f = r 7 := by
  unfold sRowX
  rw [sMv_1 (by omega)]
  split
  · omega
  · split <;> omega
theorem sColX_s {pct f : Int} {r : Int → Int} (h : f < r 2 + r 3 + r 4) : sColX pct r f = r 8 := by
  unfold sColX
  rw [sMv_1 (by omega)]
  split
  · omega
  · split <;> omega
theorem no_share {pct : Int} {r q : Int → Int} {a E : Int} (h : E ≤ a ∨ ¬ sShare pct r q a) : ∀ f, a ≤ f → f < max (a + 1) (min (r 2 + r 3 + r 4) (q 2 + q 3 + q 4)) → f < E → ¬ sShare pct r q f := by
  intro f h1 h2 h3 h4
  rcases h with h | h
  · omega
  · by_cases e : f = a
    · rw [e] at h4; exact h h4
    · have z1 : f < r 2 + r 3 + r 4 ∧ f < q 2 + q 3 + q 4 := by omega
      apply h
      unfold sShare at *
      rw [sRowX_s z1.1, sRowX_s z1.2, sColX_s z1.1, sColX_s z1.2] at h4
      rw [sRowX_s (by omega), sRowX_s (by omega), sColX_s (by omega), sColX_s (by omega)]
      exact h4
theorem sMeet_no {pct n : Int} {sh r q : Int → Int} (h : ¬ (r 6 = 1 ∧ q 6 = 1)) : sMeet pct n sh r q = -19 := by
  unfold sMeet
  rw [if_neg h]
theorem sMeet_lane {pct n : Int} {sh r q : Int → Int} (h : r 7 ≠ q 7) (h1 : r 5 ≠ 3 ∧ r 5 ≠ 4) (h2 : q 5 ≠ 3 ∧ q 5 ≠ 4) : sMeet pct n sh r q = -19 := by
  unfold sMeet
  split
  · rcases Int.lt_or_le (max (r 2) (q 2)) (min (sGone pct n sh r) (sGone pct n sh q)) with z | z
    · have k := sF_is (c := fun f => sShare pct r q f) (a := max (r 2) (q 2)) (b := min (sGone pct n sh r) (sGone pct n sh q)) (by omega)
      split
      · rename_i hl
        have k2 := (k.2.2 hl).1
        unfold sRowX at k2
        rw [if_neg h1.1, if_neg h1.2, if_neg h2.1, if_neg h2.2] at k2
        exact absurd k2 h
      · rfl
    · rw [sF_nil z, if_neg (by omega)]
  · rfl
theorem sMeet_hit {pct n : Int} {sh r q : Int → Int} {i : Int} (hp : r 6 = 1 ∧ q 6 = 1) (h0 : max (r 2) (q 2) ≤ i) (h1 : i < min (sGone pct n sh r) (sGone pct n sh q)) (hs : sShare pct r q i) (hno : ∀ f, max (r 2) (q 2) ≤ f → f < i → f < min (sGone pct n sh r) (sGone pct n sh q) → ¬ sShare pct r q f) : sMeet pct n sh r q = i := by
  have e : sF (fun f => sShare pct r q f) (max (r 2) (q 2)) (min (sGone pct n sh r) (sGone pct n sh q)) = i := sF_eq ⟨⟨h0, by omega⟩, fun f z1 z2 => hno f z1 z2 (by omega), fun _ => hs⟩
  unfold sMeet
  rw [if_pos hp, e, if_pos h1]
theorem sMeet_end {pct n : Int} {sh r q : Int → Int} {i : Int} (h1 : min (sGone pct n sh r) (sGone pct n sh q) ≤ i) (hno : ∀ f, max (r 2) (q 2) ≤ f → f < i → f < min (sGone pct n sh r) (sGone pct n sh q) → ¬ sShare pct r q f) : sMeet pct n sh r q = -19 := by
  unfold sMeet
  split
  · rcases Int.lt_or_le (max (r 2) (q 2)) (min (sGone pct n sh r) (sGone pct n sh q)) with z | z
    · have k := sF_is (c := fun f => sShare pct r q f) (a := max (r 2) (q 2)) (b := min (sGone pct n sh r) (sGone pct n sh q)) (by omega)
      split
      · rename_i hl
        exact absurd (k.2.2 hl) (hno _ k.1.1 (by omega) hl)
      · rfl
    · rw [sF_nil z, if_neg (by omega)]
  · rfl
theorem sMeet_b {I : fM} {sc k k2 : Nat} (hv : fSv I sc) (hw : fWv I k) (hx : fWv I k2) : -19 ≤ sMeet (I sc 4) (I sc 3) (I (sc + 2)) (I k) (I k2) ∧ sMeet (I sc 4) (I sc 3) (I (sc + 2)) (I k) (I k2) ≤ 2300 := by
  unfold sMeet
  split
  · rename_i hp
    have g1 := sGone_b hv hw hp.1
    have g2 := sGone_b hv hx hp.2
    obtain ⟨-, b1, -⟩ := hw
    obtain ⟨-, b2, -⟩ := hx
    rcases Int.lt_or_le (max (I k 2) (I k2 2)) (min (sGone (I sc 4) (I sc 3) (I (sc + 2)) (I k)) (sGone (I sc 4) (I sc 3) (I (sc + 2)) (I k2))) with z | z
    · have k := (sF_is (c := fun f => sShare (I sc 4) (I k) (I k2) f) (a := max (I k 2) (I k2 2)) (b := min (sGone (I sc 4) (I sc 3) (I (sc + 2)) (I k)) (sGone (I sc 4) (I sc 3) (I (sc + 2)) (I k2))) (by omega)).1
      split <;> omega
    · rw [sF_nil z, if_neg (by omega)]
      omega
  · omega
