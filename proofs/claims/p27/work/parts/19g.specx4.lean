/-! SPEC X4: the order in which words are put; the first free place -/
/-- word a is put ahead of word b -/
abbrev sAhead (len fi : Int → Int) (a b : Int) : Prop := fi a < fi b ∨ fi a = fi b ∧ (len b < len a ∨ len a = len b ∧ a < b)
theorem sAhead_tr {len fi : Int → Int} {a b c : Int} (h : sAhead len fi a b) (k : sAhead len fi b c) : sAhead len fi a c := by
  unfold sAhead at *
  omega
theorem sAhead_no {len fi : Int → Int} {a b : Int} (h : sAhead len fi a b) : ¬ sAhead len fi b a := by
  unfold sAhead at *
  omega
theorem sAhead_tot {len fi : Int → Int} {a b : Int} (h : a ≠ b) (k : ¬ sAhead len fi a b) : sAhead len fi b a := by
  unfold sAhead at *
  omega
/-- the first n places of o hold the words in the order in which they are put -/
def sOrd (len fi : Int → Int) (n : Int) (o : Int → Int) : Prop := (∀ i, 0 ≤ i → i < n → 0 ≤ o i ∧ o i < n) ∧ ∀ i j, 0 ≤ i → i < j → j < n → sAhead len fi (o i) (o j)
theorem sOrd_0 (len fi o : Int → Int) : sOrd len fi 0 o := ⟨fun i h1 h2 => by omega, fun i j h1 h2 h3 => by omega⟩
theorem sOrd_ins {len fi o u : Int → Int} {n p : Int} (h : sOrd len fi n o) (hp : 0 ≤ p ∧ p ≤ n) (h1 : ∀ j, p ≤ j → j < n → sAhead len fi n (o j)) (h2 : ∀ j, 0 ≤ j → j < p → sAhead len fi (o j) n) (hu : ∀ b, 0 ≤ b → b ≤ n → u b = if p < b then o (b - 1) else if b = p then n else o b) : sOrd len fi (n + 1) u := by
  refine ⟨fun i i0 i1 => ?_, fun i j i0 ij j1 => ?_⟩
  · rw [hu i i0 (by omega)]
    split
    · have := h.1 (i - 1) (by omega) (by omega); omega
    · split
      · omega
      · have := h.1 i (by omega) (by omega); omega
  · rw [hu i i0 (by omega), hu j (by omega) (by omega)]
    by_cases a1 : p < i
    · rw [if_pos a1, if_pos (by omega)]
      exact h.2 _ _ (by omega) (by omega) (by omega)
    · rw [if_neg a1]
      by_cases a2 : i = p
      · rw [if_pos a2, if_pos (by omega)]
        exact h1 _ (by omega) (by omega)
      · rw [if_neg a2]
        by_cases a3 : p < j
        · rw [if_pos a3]
          by_cases a4 : j - 1 = i
          · omega
          · exact h.2 _ _ (by omega) (by omega) (by omega)
        · rw [if_neg a3]
          by_cases a5 : j = p
          · rw [if_pos a5]
            exact h2 _ (by omega) (by omega)
          · rw [if_neg a5]
            exact h.2 _ _ (by omega) (by omega) (by omega)
/-- the column tried at a turn -/
def sTurn (last t : Int) : Int := if t % 2 = 0 then last / 2 + t / 2 else last / 2 - (t + 1) / 2
theorem sTurn_in {last t : Int} (h0 : 0 ≤ last) (h1 : 0 ≤ t) (h2 : t < last + 2) : sTurn last t ≤ last := by
  unfold sTurn
  split <;> omega
theorem sTurn_out {last t : Int} (h0 : 0 ≤ last) (h1 : last + 2 ≤ t) : ¬ (0 ≤ sTurn last t ∧ sTurn last t ≤ last) := by
  unfold sTurn
  split <;> omega
/-- the first turn of a lane at which the word is free there; 81 where there is none -/
noncomputable def sTF (fr : Int → Int → Prop) (last la : Int) : Int := sF (fun t => (0 ≤ sTurn last t ∧ sTurn last t ≤ last) ∧ fr la (sTurn last t)) 0 81
/-- the first lane, by its time, that has a free place; 8 where there is none -/
noncomputable def sLF (fr : Int → Int → Prop) (last : Int) : Int := sF (fun i => sTF fr last (sLane i) < 81) 0 8
theorem sTF_is (fr : Int → Int → Prop) (last la : Int) : isF (fun t => (0 ≤ sTurn last t ∧ sTurn last t ≤ last) ∧ fr la (sTurn last t)) 0 81 (sTF fr last la) := sF_is (by decide)
theorem sLF_is (fr : Int → Int → Prop) (last : Int) : isF (fun i => sTF fr last (sLane i) < 81) 0 8 (sLF fr last) := sF_is (by decide)
theorem sTF_end {fr : Int → Int → Prop} {last la t : Int} (h0 : 0 ≤ last ∧ last ≤ 39) (h1 : last + 2 ≤ t) (h : t ≤ sTF fr last la) : sTF fr last la = 81 := by
  have k := sTF_is fr last la
  rcases Int.lt_or_le (sTF fr last la) 81 with z | z
  · exact absurd (k.2.2 z).1 (sTurn_out h0.1 (by omega))
  · have := k.1.2
    omega
/-- what a scene's words are when a word has been put at its first free place -/
noncomputable def xPlace (I : fM) (P : fN) (sc : Nat) (x : Int) : fM :=
  if sLF (fun la co => xFree I P sc x (I (P (sc + 1) x) 2) la co) (40 - I (P (sc + 1) x) 1) < 8 then
    fup (fup (fup I (P (sc + 1) x) 6 1) (P (sc + 1) x) 7 (sLane (sLF (fun la co => xFree I P sc x (I (P (sc + 1) x) 2) la co) (40 - I (P (sc + 1) x) 1)))) (P (sc + 1) x) 8 (sTurn (40 - I (P (sc + 1) x) 1) (sTF (fun la co => xFree I P sc x (I (P (sc + 1) x) 2) la co) (40 - I (P (sc + 1) x) 1) (sLane (sLF (fun la co => xFree I P sc x (I (P (sc + 1) x) 2) la co) (40 - I (P (sc + 1) x) 1)))))
  else I
/-- two memories that differ in a scene's trial word alone -/
def tEq (I J : fM) (sc : Nat) : Prop := ∀ a : Nat, a ≠ sc + 3 → a ≠ sc + 4 → J a = I a
theorem tEq_free {I J : fM} {P : fN} {sc : Nat} {x f la co : Int} (hp : fPs P sc) (hx : 0 ≤ x ∧ x < 12) (hc : I sc 1 ≤ 12) (h : tEq I J sc) : xFree J P sc x f la co ↔ xFree I P sc x f la co := by
  have e0 : J sc = I sc := h sc (by omega) (by omega)
  have e2 : J (sc + 2) = I (sc + 2) := h (sc + 2) (by omega) (by omega)
  have ew : ∀ i : Int, 0 ≤ i → i < 12 → J (P (sc + 1) i) = I (P (sc + 1) i) := fun i h0 h1 => by
    obtain ⟨j, hj, e⟩ := hp.1 i h0 h1
    exact h _ (by omega) (by omega)
  unfold xFree
  rw [e0, e2, ew x hx.1 hx.2]
  constructor
  · intro k i i0 i1 i2
    have := k i i0 i1 i2
    rw [ew i i0 (by omega)] at this
    exact this
  · intro k i i0 i1 i2
    rw [ew i i0 (by omega)]
    exact k i i0 i1 i2
theorem sort_ins {J : fM} {a : Nat} {len fi : Int → Int} {i k : Int} (hO : sOrd len fi i (J a)) (hk : 0 ≤ k ∧ k ≤ i) (h1 : ∀ j, k ≤ j → j < i → sAhead len fi i (J a j)) (h2 : ∀ j, 0 ≤ j → j < k → sAhead len fi (J a j) i) : sOrd len fi (i + 1) (fup (fMov J a 0 i k) a k i a) := by
  refine sOrd_ins hO hk h1 h2 (fun b b0 b1 => ?_)
  unfold fup fMov
  by_cases z : k < b
  · rw [if_neg (by omega), if_pos ⟨rfl, by omega, by omega⟩, if_pos z]
  · rw [if_neg z]
    by_cases z2 : b = k
    · rw [if_pos ⟨rfl, z2⟩, if_pos z2]
    · rw [if_neg (fun q => z2 q.2), if_neg z2, if_neg (by omega)]
theorem sort_low {o len fi : Int → Int} {i k : Int} (h : k ≤ 0 ∨ sAhead len fi (o (k - 1)) i) (hO : sOrd len fi i o) (hk : k ≤ i) : ∀ j, 0 ≤ j → j < k → sAhead len fi (o j) i := by
  intro j j0 j1
  rcases h with h | h
  · omega
  · by_cases e : j = k - 1
    · rw [e]; exact h
    · exact sAhead_tr (hO.2 j (k - 1) j0 (by omega) (by omega)) h
theorem tEq_try {I K : fM} {sc k : Nat} {f la co : Int} (h : tEq I K sc) : tEq I (xTry K sc k f la co) sc := by
  intro a h1 h2
  rw [xTry_o h1 h2]
  exact h a h1 h2
theorem tEq_up {I K : fM} {sc k : Nat} {j x : Int} (h : tEq I K sc) : tEq (fup I k j x) (fup K k j x) sc := by
  intro a h1 h2
  funext b
  unfold fup
  rw [h a h1 h2]
theorem place_hit {I K : fM} {P : fN} {sc : Nat} {x i t : Int} (hi : 0 ≤ i ∧ i < 8) (ht : 0 ≤ t ∧ t < 81) (hr : i ≤ sLF (fun la co => xFree I P sc x (I (P (sc + 1) x) 2) la co) (40 - I (P (sc + 1) x) 1)) (hq : t ≤ sTF (fun la co => xFree I P sc x (I (P (sc + 1) x) 2) la co) (40 - I (P (sc + 1) x) 1) (sLane i)) (hc : 0 ≤ sTurn (40 - I (P (sc + 1) x) 1) t ∧ sTurn (40 - I (P (sc + 1) x) 1) t ≤ 40 - I (P (sc + 1) x) 1) (hf : xFree I P sc x (I (P (sc + 1) x) 2) (sLane i) (sTurn (40 - I (P (sc + 1) x) 1) t)) (hK : tEq I K sc) : tEq (xPlace I P sc x) (fup (fup (fup K (P (sc + 1) x) 6 1) (P (sc + 1) x) 7 (sLane i)) (P (sc + 1) x) 8 (sTurn (40 - I (P (sc + 1) x) 1) t)) sc := by
  have e1 := isF_hit (sTF_is (fun la co => xFree I P sc x (I (P (sc + 1) x) 2) la co) (40 - I (P (sc + 1) x) 1) (sLane i)) ht.1 hq ⟨hc, hf⟩
  have e2 := isF_hit (sLF_is (fun la co => xFree I P sc x (I (P (sc + 1) x) 2) la co) (40 - I (P (sc + 1) x) 1)) hi.1 hr (by rw [e1]; exact ht.2)
  unfold xPlace
  rw [e2, if_pos hi.2, e1]
  exact tEq_up (tEq_up (tEq_up hK))
theorem place_no {I K : fM} {P : fN} {sc : Nat} {x : Int} (hr : 8 ≤ sLF (fun la co => xFree I P sc x (I (P (sc + 1) x) 2) la co) (40 - I (P (sc + 1) x) 1)) (hK : tEq I K sc) : tEq (xPlace I P sc x) K sc := by
  unfold xPlace
  rw [if_neg (by omega)]
  exact hK
/-- the place of a shot; the shots' number where there is none -/
noncomputable def xShotOf (I : fM) (sc : Nat) (f : Int) : Int := sF (fun i => I (sc + 2) i = f) 0 (I sc 3)
