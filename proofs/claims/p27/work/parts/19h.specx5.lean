/-! SPEC X5: the class's public writes -/
/-- two memories that differ in the present scene's trial word and order alone -/
def xEq (I J : fM) : Prop := ∀ a : Nat, a ≠ 4 → a ≠ 5 → a ≠ 6 → J a = I a
theorem xEq_t {I J : fM} (h : tEq I J 1) : xEq I J := fun a h1 h2 _ => h a h1 h2
theorem xEq_r (I : fM) : xEq I I := fun _ _ _ _ => rfl
theorem xRecN_b {I : fM} (h : 0 ≤ I 0 3 ∧ I 0 3 ≤ 5) : 0 ≤ xRecN I ∧ xRecN I < 5 := by
  unfold xRecN
  split <;> omega
theorem xRecP_hs {I : fM} {P : fN} (h : fHs P) : fHs (xRecP I P) := by
  unfold xRecP
  split
  · exact fHs_rot h
  · exact h
theorem xRecP_pa {I : fM} {P : fN} (h : fPa P) : fPa (xRecP I P) := by
  unfold xRecP
  split
  · exact fPa_61 h
  · exact h
theorem xRecP_o {I : fM} {P : fN} {a : Nat} (h : a ≠ 61) : xRecP I P a = P a := by
  unfold xRecP
  split
  · exact pRot_o h
  · rfl
theorem xRec_o {I : fM} {P : fN} {M : fM} {N : fN} (hh : fHs P) (hst : 0 ≤ I 0 3 ∧ I 0 3 ≤ 5) (h : xRec I P M N) {a : Nat} (h0 : a ≠ 0) (ha : a < 62 ∨ 212 ≤ a) : M a = I a := by
  obtain ⟨e, -, -, -, o⟩ := h
  have b1 := xRecN_b hst
  have b := fHs_b (xRecP_hs (I := I) hh) b1.1 b1.2
  rw [← e] at b
  exact o a h0 (by omega)
theorem xRec_w {I : fM} {P : fN} {M : fM} {N : fN} (hp : fPs P 1) (hh : fHs P) (hst : 0 ≤ I 0 3 ∧ I 0 3 ≤ 5) (h : xRec I P M N) {w : Int} (h0 : 0 ≤ w) (h1 : w < 12) : M (P 2 w) = I (P 2 w) ∧ M (P 2 w + 1) = I (P 2 w + 1) := by
  obtain ⟨j, hj, e⟩ := hp.1 w h0 h1
  have e2 : P 2 w = 1 + 6 + 2 * j := e
  exact ⟨xRec_o hh hst h (by omega) (by omega), xRec_o hh hst h (by omega) (by omega)⟩
theorem xRec_v {I : fM} {P : fN} {M : fM} {N : fN} (hv : fSv I 1) (hh : fHs P) (hst : 0 ≤ I 0 3 ∧ I 0 3 ≤ 5) (h : xRec I P M N) : fSv M 1 := by
  unfold fSv
  rw [xRec_o hh hst h (a := 1) (by decide) (by decide), xRec_o hh hst h (a := 1 + 2) (by decide) (by decide)]
  exact hv
theorem xRec_p {I : fM} {P : fN} {M : fM} {N : fN} (hp : fPa P) (h : xRec I P M N) : fPa N := by
  rw [h.1]
  exact xRecP_pa hp
theorem xRec_2 {I : fM} {P : fN} {M : fM} {N : fN} (h : xRec I P M N) : N 2 = P 2 := by
  rw [h.1]
  exact xRecP_o (by decide)
/-- an action: where it is one, the present scene is kept first -/
abbrev xAct (I : fM) (P : fN) (J : fM) (Q : fN) (ok : Prop) (F : fM → fN → Prop) : Prop := (ok ∧ ∃ M N, xRec I P M N ∧ F M N) ∨ (¬ ok ∧ J = I ∧ Q = P)
def qXAdd (I : fM) (le f sp he way : Int) : Int := if addV le f sp he way then (if I 1 1 = 12 then -13 else I 1 1) else -11
def qXRem (I : fM) (w : Int) : Int := if 0 ≤ w ∧ w < I 1 1 then I 1 1 - 1 else -11
def qXSet (I : fM) (P : fN) (w what v : Int) : Int := if (0 ≤ w ∧ w < I 1 1) ∧ sAllowed what v = true then I (P 2 w) (what + 2) else -11
noncomputable def qXAddShot (I : fM) (f : Int) : Int := if 1 ≤ f ∧ f ≤ 3000 then (if xShotOf I 1 f < I 1 3 then -12 else if I 1 3 = 10 then -13 else I 1 3 + 1) else -11
noncomputable def qXRemShot (I : fM) (f : Int) : Int := if 1 ≤ f ∧ f ≤ 3000 then (if xShotOf I 1 f < I 1 3 then I 1 3 - 1 else -12) else -11
def qXSpeed (I : fM) (x : Int) : Int := if 50 ≤ x ∧ x ≤ 400 then I 1 4 else -11
def qXApp (I : fM) (x : Int) : Int := if 1 ≤ x ∧ x ≤ 255 then (if I 212 1 = 160 then -13 else I 212 1 + 1) else -11
def gXApp (I : fM) (x : Int) : fM := if (1 ≤ x ∧ x ≤ 255) ∧ I 212 1 ≠ 160 then fup (fup I 213 (I 212 1) x) 212 1 (I 212 1 + 1) else I
/-- how many words of the present scene are put -/
def xCnt (I : fM) (P : fN) : Int := sSum (fun i => if I (P 2 i) 6 = 1 then 1 else 0) (I 1 1)
abbrev xPl (I : fM) (P : fN) (w la co : Int) : Prop := (0 ≤ w ∧ w < I 1 1) ∧ (0 ≤ la ∧ la ≤ 7) ∧ 0 ≤ co ∧ co + I (P 2 w) 1 ≤ 40
/-- a word is put at a place -/
def xPutM (I : fM) (k : Nat) (la co : Int) : fM := fup (fup (fup I k 6 1) k 7 la) k 8 co
noncomputable def xEarF (I : fM) (P : fN) (w la co : Int) : Int := sF (fun f => xFree I P 1 w f la co) (I (P 2 w) 2) 2001
noncomputable def qXEar (I : fM) (P : fN) (w la co : Int) : Int := if xPl I P w la co then (if xEarF I P w la co < 2001 then xEarF I P w la co else -19) else -11
theorem xEq_free {I J : fM} {P : fN} {x f la co : Int} (hp : fPs P 1) (hx : 0 ≤ x ∧ x < 12) (hc : I 1 1 ≤ 12) (h : xEq I J) : xFree J P 1 x f la co ↔ xFree I P 1 x f la co := by
  have e0 : J 1 = I 1 := h 1 (by decide) (by decide) (by decide)
  have e2 : J (1 + 2) = I (1 + 2) := h 3 (by decide) (by decide) (by decide)
  have ew : ∀ i : Int, 0 ≤ i → i < 12 → J (P (1 + 1) i) = I (P (1 + 1) i) := fun i h0 h1 => by
    obtain ⟨j, hj, e⟩ := hp.1 i h0 h1
    exact h _ (by omega) (by omega) (by omega)
  unfold xFree
  rw [e0, e2, ew x hx.1 hx.2]
  constructor
  · intro k i i0 i1 i2
    have := k i i0 i1 i2
    rw [ew i i0 (by omega)] at this
    exact this
  · intro k i i0 i1 i2
    rw [ew i i0 (by omega)]
    exact k i i0 i1 i2
theorem xEq_up {I K : fM} {k : Nat} {j x : Int} (h : xEq I K) : xEq (fup I k j x) (fup K k j x) := by
  intro a h1 h2 h3
  funext b
  unfold fup
  rw [h a h1 h2 h3]
theorem xEq_place {I J : fM} {P : fN} {x : Int} (hp : fPs P 1) (hx : 0 ≤ x ∧ x < 12) (hc : I 1 1 ≤ 12) (h : xEq I J) : xEq (xPlace I P 1 x) (xPlace J P 1 x) := by
  obtain ⟨j, hj, e⟩ := hp.1 x hx.1 hx.2
  have ek : J (P (1 + 1) x) = I (P (1 + 1) x) := h _ (by omega) (by omega) (by omega)
  have ef : (fun la co => xFree J P 1 x (J (P (1 + 1) x) 2) la co) = fun la co => xFree I P 1 x (I (P (1 + 1) x) 2) la co := by
    funext la co
    rw [ek]
    exact propext (xEq_free hp hx hc h)
  unfold xPlace
  rw [ef, ek]
  split
  · exact xEq_up (xEq_up (xEq_up h))
  · exact h
theorem xEq_tr {I J K : fM} (h : xEq I J) (k : xEq J K) : xEq I K := fun a h1 h2 h3 => (k a h1 h2 h3).trans (h a h1 h2 h3)
/-- the words of an order put one by one -/
noncomputable def xPutN (I : fM) (P : fN) (o : Int → Int) : Nat → fM
  | 0 => I
  | n + 1 => xPlace (xPutN I P o n) P 1 (o n)
theorem xPutN_s {I : fM} {P : fN} {o : Int → Int} {i : Int} (h : 0 ≤ i) : xPutN I P o (i + 1).toNat = xPlace (xPutN I P o i.toNat) P 1 (o i) := by
  obtain ⟨n, hn⟩ : ∃ n : Nat, i = n := ⟨i.toNat, by omega⟩
  subst hn
  rw [show ((n : Int) + 1).toNat = n + 1 by omega, show ((n : Int)).toNat = n by omega]
  rfl
/-- what putting a word at its first free place leaves alone -/
theorem xPlace_o {I : fM} {P : fN} {sc : Nat} {x : Int} {a : Nat} {b : Int} (h : a ≠ P (sc + 1) x ∨ (b ≠ 6 ∧ b ≠ 7 ∧ b ≠ 8)) : xPlace I P sc x a b = I a b := by
  unfold xPlace
  split
  · unfold fup
    rw [if_neg (by omega), if_neg (by omega), if_neg (by omega)]
  · rfl
theorem xPlace_wv {I : fM} {P : fN} {sc : Nat} {x : Int} {a : Nat} (hx : 1 ≤ I (P (sc + 1) x) 1 ∧ I (P (sc + 1) x) 1 ≤ 12) (h : fWv I a) : fWv (xPlace I P sc x) a := by
  by_cases e : a = P (sc + 1) x
  · unfold xPlace
    split
    · rename_i hl
      have h8 := (sLF_is (fun la co => xFree I P sc x (I (P (sc + 1) x) 2) la co) (40 - I (P (sc + 1) x) 1)).2.2 hl
      have h9 := ((sTF_is (fun la co => xFree I P sc x (I (P (sc + 1) x) 2) la co) (40 - I (P (sc + 1) x) 1) (sLane (sLF (fun la co => xFree I P sc x (I (P (sc + 1) x) 2) la co) (40 - I (P (sc + 1) x) 1)))).2.2 h8).1
      have hb := sLane_b (sLF (fun la co => xFree I P sc x (I (P (sc + 1) x) 2) la co) (40 - I (P (sc + 1) x) 1))
      obtain ⟨w1, w2, w3, w4, w5, w6, w7⟩ := h
      rw [← e] at hb h9 h8 ⊢
      unfold fWv
      rw [fup_j (b := 1) (by decide), fup_j (b := 1) (by decide), fup_j (b := 1) (by decide), fup_j (b := 2) (by decide), fup_j (b := 2) (by decide), fup_j (b := 2) (by decide), fup_j (b := 3) (by decide), fup_j (b := 3) (by decide), fup_j (b := 3) (by decide), fup_j (b := 4) (by decide), fup_j (b := 4) (by decide), fup_j (b := 4) (by decide), fup_j (b := 5) (by decide), fup_j (b := 5) (by decide), fup_j (b := 5) (by decide), fup_j (j := 8) (b := 6) (by decide), fup_j (j := 7) (b := 6) (by decide), fup_s, fup_j (j := 8) (b := 7) (by decide), fup_s, fup_s]
      exact ⟨w1, w2, w3, w4, w5, Or.inr rfl, fun _ => ⟨hb, by omega, by omega⟩⟩
    · exact h
  · exact fWv_eq (fun b _ _ => xPlace_o (Or.inl e)) h
/-- a shot of the present scene put in its order; one taken out -/
def xInsS (I : fM) (f : Int) : fM := fup (fIns I 3 0 (I 1 3) (pIns (fun i => I 3 i) f (I 1 3).toNat) f) 1 3 (I 1 3 + 1)
def xDelS (I : fM) (q : Int) : fM := fup (fcpy I 3 (q + 1) 3 q (I 1 3 - 1 - q)) 1 3 (I 1 3 - 1)
theorem shot_un {I : fM} {n f q i : Int} (hd : ∀ i j : Int, 0 ≤ i → i < j → j < n → I 3 i ≠ I 3 j) (q0 : 0 ≤ q) (q1 : q < n) (i0 : 0 ≤ i) (i1 : i < n) (h : i ≠ q) (e : I 3 q = f) : I 3 i ≠ f := by
  rw [← e]
  rcases Int.lt_or_le i q with z | z
  · exact hd i q i0 z q1
  · exact fun w => hd q i q0 (by omega) i1 w.symm
theorem xPutM_ne {I : fM} {k a : Nat} {la co : Int} (h : a ≠ k) : xPutM I k la co a = I a := by
  unfold xPutM
  rw [fup_ne h, fup_ne h, fup_ne h]
theorem fWv_off {I : fM} {k a : Nat} (h : fWv I a) : fWv (fup I k 6 0) a := by
  by_cases e : a = k
  · subst e
    obtain ⟨w1, w2, w3, w4, w5, w6, w7⟩ := h
    unfold fWv
    rw [fup_j (b := 1) (by decide), fup_j (b := 2) (by decide), fup_j (b := 3) (by decide), fup_j (b := 4) (by decide), fup_j (b := 5) (by decide), fup_s]
    exact ⟨w1, w2, w3, w4, w5, Or.inl rfl, fun z => absurd z (by decide)⟩
  · unfold fWv
    rw [fup_ne e]
    exact h
theorem fWv_put {I : fM} {k a : Nat} {la co : Int} (h : fWv I a) (hla : 0 ≤ la ∧ la ≤ 7) (hco : 0 ≤ co) (hc : a = k → co + I a 1 ≤ 40) : fWv (xPutM I k la co) a := by
  by_cases e : a = k
  · subst e
    obtain ⟨w1, w2, w3, w4, w5, w6, w7⟩ := h
    unfold fWv xPutM
    rw [fup_j (b := 1) (by decide), fup_j (b := 1) (by decide), fup_j (b := 1) (by decide), fup_j (b := 2) (by decide), fup_j (b := 2) (by decide), fup_j (b := 2) (by decide), fup_j (b := 3) (by decide), fup_j (b := 3) (by decide), fup_j (b := 3) (by decide), fup_j (b := 4) (by decide), fup_j (b := 4) (by decide), fup_j (b := 4) (by decide), fup_j (b := 5) (by decide), fup_j (b := 5) (by decide), fup_j (b := 5) (by decide), fup_j (j := 8) (b := 6) (by decide), fup_j (j := 7) (b := 6) (by decide), fup_s, fup_j (j := 8) (b := 7) (by decide), fup_s, fup_s]
    exact ⟨w1, w2, w3, w4, w5, Or.inr rfl, fun _ => ⟨hla, hco, hc rfl⟩⟩
  · unfold fWv
    rw [xPutM_ne e]
    exact h
theorem vEq_u {I J : fM} {P : fN} {x w : Int} (hh : fHs P) (hp : fPa P) (h0 : 0 ≤ w) (h1 : w < 5) (hc : 0 ≤ I (P 61 w) 1 ∧ I (P 61 w) 1 ≤ 12) (v : vEq (fup I 0 3 x) P (P 61 w) J P 1) : vEq I P (P 61 w) J P 1 := by
  have b := fHs_b hh h0 h1
  have hs := fHs_s hh h0 h1
  obtain ⟨v1, v3, v4, vs, vw⟩ := v
  rw [fup_ne (by omega)] at v1 v3 v4 vs vw
  refine ⟨v1, v3, v4, vs, fun y y0 y1 => ?_⟩
  obtain ⟨j, hj, e⟩ := (hp _ hs).1 y y0 (by omega)
  have k := vw y y0 y1
  unfold wEq at *
  rw [fup_ne (by omega), fup_ne (by omega)] at k
  exact k
