/-! SPEC X6: the class's putting of all words, step by step -/
theorem fWv_take {I : fM} {P : fN} {sc a : Nat} {n : Int} (h : fWv I a) : fWv (xTake I P sc n) a := by
  obtain ⟨w1, w2, w3, w4, w5, w6, w7⟩ := h
  unfold fWv
  rw [xTake_k (b := 1) (by decide), xTake_k (b := 2) (by decide), xTake_k (b := 3) (by decide), xTake_k (b := 4) (by decide), xTake_k (b := 5) (by decide), xTake_k (b := 7) (by decide), xTake_k (b := 8) (by decide)]
  refine ⟨w1, w2, w3, w4, w5, ?_, ?_⟩
  · unfold xTake
    split
    · exact Or.inl rfl
    · exact w6
  · unfold xTake
    split
    · exact fun z => absurd z (by decide)
    · exact w7
theorem sOrd_c {len fi len2 fi2 o : Int → Int} {n : Int} (h : ∀ w, 0 ≤ w → w < n → len w = len2 w ∧ fi w = fi2 w) (k : sOrd len fi n o) : sOrd len2 fi2 n o := by
  refine ⟨k.1, fun i j i0 ij j1 => ?_⟩
  have b1 := k.1 i i0 (by omega)
  have b2 := k.1 j (by omega) j1
  have e1 := h _ b1.1 b1.2
  have e2 := h _ b2.1 b2.2
  have := k.2 i j i0 ij j1
  unfold sAhead at *
  rw [← e1.1, ← e1.2, ← e2.1, ← e2.2]
  exact this
theorem xTake_1 {M : fM} {N : fN} {n : Int} {a : Nat} (hp : fPs N 1) (hn : n ≤ 12) (ha : a < 7) : xTake M N 1 n a = M a := by
  funext b
  refine xTake_o (fun w w0 w1 => ?_)
  obtain ⟨j, hj, e⟩ := hp.1 w w0 (by omega)
  omega
theorem place_step {J K : fM} {N : fN} {x : Int} (hp : fPs N 1) (hx : 0 ≤ x ∧ x < 12) (h : tEq (xPlace J N 1 x) K 1) : K 1 = J 1 ∧ K 3 = J 3 ∧ K 6 = J 6 ∧ ∀ w : Int, 0 ≤ w → w < 12 → K (N 2 w) = xPlace J N 1 x (N 2 w) := by
  obtain ⟨j, hj, e⟩ := hp.1 x hx.1 hx.2
  refine ⟨?_, ?_, ?_, fun w w0 w1 => ?_⟩
  · rw [h 1 (by decide) (by decide)]
    funext b
    exact xPlace_o (Or.inl (by omega))
  · rw [h 3 (by decide) (by decide)]
    funext b
    exact xPlace_o (Or.inl (by omega))
  · rw [h 6 (by decide) (by decide)]
    funext b
    exact xPlace_o (Or.inl (by omega))
  · obtain ⟨j2, hj2, e2⟩ := hp.1 w w0 w1
    have e3 : N 2 w = 1 + 6 + 2 * j2 := e2
    exact h _ (by omega) (by omega)
