/-! REL: a scene of the class is what an array of the reference is -/
/-- a word is what a word of the array is: its fields r, its letters g; the array's row q -/
def wRel (r g q : Int → Int) : Prop := r 1 = q 6 ∧ r 2 = q 0 ∧ r 3 = q 1 ∧ r 4 = q 2 ∧ r 5 = q 3 ∧ ((r 6 = 0 ∧ q 4 = -1) ∨ (r 6 = 1 ∧ q 4 ≠ -1 ∧ q 4 = r 7 ∧ q 5 = r 8)) ∧ ∀ j : Int, 0 ≤ j → j < q 6 → g j = q (7 + j)
def Rel (I : fM) (P : fN) (sc : Nat) (s : Int → Int) : Prop := I sc 1 = s 0 ∧ I sc 3 = s 1 ∧ I sc 4 = s 2 ∧ (∀ i : Int, 0 ≤ i → i < s 1 → I (sc + 2) i = s (3 + i)) ∧ ∀ w : Int, 0 ≤ w → w < s 0 → wRel (I (P (sc + 1) w)) (I (P (sc + 1) w + 1)) (fun q => s (13 + 19 * w + q))
/-- the shots are apart -/
def sDi (s : Int → Int) : Prop := ∀ i j : Int, 0 ≤ i → i < j → j < s 1 → s (3 + i) ≠ s (3 + j)
theorem wRel_wv {I : fM} {k : Nat} {q : Int → Int} (h : wRel (I k) (I (k + 1)) q) (hv : mWv q) : fWv I k := by
  obtain ⟨h1, h2, h3, h4, h5, h6, -⟩ := h
  obtain ⟨v1, v2, v3, v4, v5, v6, v7, v8⟩ := hv
  refine ⟨by omega, by omega, by omega, by omega, by omega, by omega, fun z => ?_⟩
  rcases h6 with h6 | ⟨h6, h7, h8, h9⟩
  · omega
  · have := v8 h7
    omega
theorem Rel_sv {I : fM} {P : fN} {sc : Nat} {s : Int → Int} (h : Rel I P sc s) (hv : mOkr s) : fSv I sc := by
  obtain ⟨h1, h2, h3, h4, h5⟩ := h
  obtain ⟨⟨v1, v2, v3, v4⟩, v5⟩ := hv
  refine ⟨by omega, by omega, by omega, fun i i0 i1 => ?_⟩
  rw [h4 i i0 (by omega)]
  exact v4 i i0 (by omega)
theorem Rel_wv {I : fM} {P : fN} {sc : Nat} {s : Int → Int} (h : Rel I P sc s) (hv : mOkr s) : ∀ w : Int, 0 ≤ w → w < I sc 1 → fWv I (P (sc + 1) w) := by
  intro w w0 w1
  rw [h.1] at w1
  exact wRel_wv (h.2.2.2.2 w w0 w1) (hv.2 w w0 w1)
theorem Rel_di {I : fM} {P : fN} {sc : Nat} {s : Int → Int} (h : Rel I P sc s) (hd : sDi s) : ∀ i j : Int, 0 ≤ i → i < j → j < I sc 3 → I (sc + 2) i ≠ I (sc + 2) j := by
  intro i j i0 ij j1
  rw [h.2.1] at j1
  rw [h.2.2.2.1 i i0 (by omega), h.2.2.2.1 j (by omega) j1]
  exact hd i j i0 ij j1
theorem Rel_ok {I : fM} {P : fN} {sc : Nat} {s : Int → Int} (h : Rel I P sc s) (hv : mOkr s) (hd : sDi s) : sOk I P sc := ⟨Rel_sv h hv, Rel_wv h hv, Rel_di h hd⟩
/-- what is the same stays what it is -/
theorem Rel_eq {I J : fM} {P Q : fN} {sc : Nat} {s : Int → Int} (hp : fPs P sc) (hq : Q (sc + 1) = P (sc + 1)) (hn : s 0 ≤ 12) (h0 : J sc = I sc) (h2 : J (sc + 2) = I (sc + 2)) (hw : ∀ a : Nat, sc + 6 ≤ a → a < sc + 30 → J a = I a) (h : Rel I P sc s) : Rel J Q sc s := by
  obtain ⟨r1, r2, r3, r4, r5⟩ := h
  refine ⟨by rw [h0]; exact r1, by rw [h0]; exact r2, by rw [h0]; exact r3, by rw [h2]; exact r4, fun w w0 w1 => ?_⟩
  obtain ⟨j, hj, e⟩ := hp.1 w w0 (by omega)
  rw [hq, hw _ (by omega) (by omega), hw _ (by omega) (by omega)]
  exact r5 w w0 w1
theorem Rel_row {I : fM} {P : fN} {sc : Nat} {s t : Int → Int} (h : Rel I P sc s) (e : ∀ b, 0 ≤ b → b < 241 → t b = s b) (hv : mOkr s) : Rel I P sc t := by
  obtain ⟨r1, r2, r3, r4, r5⟩ := h
  obtain ⟨⟨v1, v2, v3, v4⟩, v5⟩ := hv
  refine ⟨by rw [e 0 (by decide) (by decide)]; exact r1, by rw [e 1 (by decide) (by decide)]; exact r2, by rw [e 2 (by decide) (by decide)]; exact r3, fun i i0 i1 => ?_, fun w w0 w1 => ?_⟩
  · rw [e 1 (by decide) (by decide)] at i1
    rw [e (3 + i) (by omega) (by omega)]
    exact r4 i i0 i1
  · rw [e 0 (by decide) (by decide)] at w1
    have h6 := (v5 w w0 w1).1
    dsimp only at h6
    obtain ⟨q1, q2, q3, q4, q5, q6, q7⟩ := r5 w w0 w1
    dsimp only at q1 q2 q3 q4 q5 q6 q7
    unfold wRel
    dsimp only
    rw [e (13 + 19 * w + 6) (by omega) (by omega), e (13 + 19 * w + 0) (by omega) (by omega), e (13 + 19 * w + 1) (by omega) (by omega), e (13 + 19 * w + 2) (by omega) (by omega), e (13 + 19 * w + 3) (by omega) (by omega), e (13 + 19 * w + 4) (by omega) (by omega), e (13 + 19 * w + 5) (by omega) (by omega)]
    refine ⟨q1, q2, q3, q4, q5, q6, fun j j0 j1 => ?_⟩
    rw [e (13 + 19 * w + (7 + j)) (by omega) (by omega)]
    exact q7 j j0 j1
theorem mOkr_eq {s t : Int → Int} (h : mOkr s) (e : ∀ b, 0 ≤ b → b < 241 → t b = s b) : mOkr t := by
  obtain ⟨⟨v1, v2, v3, v4⟩, v5⟩ := h
  refine ⟨⟨by rw [e 0 (by decide) (by decide)]; exact v1, by rw [e 1 (by decide) (by decide)]; exact v2, by rw [e 2 (by decide) (by decide)]; exact v3, fun i i0 i1 => ?_⟩, fun w w0 w1 => ?_⟩
  · rw [e 1 (by decide) (by decide)] at i1
    rw [e (3 + i) (by omega) (by omega)]
    exact v4 i i0 i1
  · rw [e 0 (by decide) (by decide)] at w1
    exact mWv_c (fun q q0 q1 => e _ (by omega) (by omega)) (v5 w w0 w1)
theorem sDi_eq {s t : Int → Int} (h : sDi s) (hn : s 1 ≤ 10) (e : ∀ b, 0 ≤ b → b < 241 → t b = s b) : sDi t := by
  intro i j i0 ij j1
  rw [e 1 (by decide) (by decide)] at j1
  rw [e (3 + i) (by omega) (by omega), e (3 + j) (by omega) (by omega)]
  exact h i j i0 ij j1
/-- a new word -/
theorem Rel_new {I K : fM} {P : fN} {sc : Nat} {s T : Int → Int} {a l f sp h w : Int} (hr : Rel I P sc s) (hv : mOkr s) (hp : fPs P sc) (hl : 1 ≤ l ∧ l ≤ 12) (h12 : s 0 < 12)
    (k1 : K sc 1 = s 0 + 1) (k3 : K sc 3 = I sc 3) (k4 : K sc 4 = I sc 4) (ks : K (sc + 2) = I (sc + 2)) (ko : ∀ v : Int, 0 ≤ v → v < s 0 → K (P (sc + 1) v) = I (P (sc + 1) v) ∧ K (P (sc + 1) v + 1) = I (P (sc + 1) v + 1))
    (w1 : K (P (sc + 1) (s 0)) 1 = l) (w2 : K (P (sc + 1) (s 0)) 2 = f) (w3 : K (P (sc + 1) (s 0)) 3 = sp) (w4 : K (P (sc + 1) (s 0)) 4 = h) (w5 : K (P (sc + 1) (s 0)) 5 = w) (w6 : K (P (sc + 1) (s 0)) 6 = 0) (wl : ∀ j : Int, 0 ≤ j → j < l → K (P (sc + 1) (s 0) + 1) j = T (a + j)) : Rel K P sc (rWord T s a l f sp h w) := by
  obtain ⟨r1, r2, r3, r4, r5⟩ := hr
  obtain ⟨⟨v1, v2, v3, v4⟩, v5⟩ := hv
  have lo : ∀ b : Int, 0 < b → b < 13 + 19 * s 0 → rWord T s a l f sp h w b = s b := fun b b0 b1 => by
    unfold rWord
    rw [if_neg (by omega), if_neg (by omega), if_neg (by omega), if_neg (by omega), if_neg (by omega), if_neg (by omega), if_neg (by omega), if_neg (by omega), if_neg (by omega)]
  have e0 : rWord T s a l f sp h w 0 = s 0 + 1 := by
    unfold rWord
    rw [if_neg (by omega), if_pos rfl]
  refine ⟨by rw [e0]; exact k1, by rw [lo 1 (by decide) (by omega), k3]; exact r2, by rw [lo 2 (by decide) (by omega), k4]; exact r3, fun i i0 i1 => ?_, fun v v0 v1' => ?_⟩
  · rw [lo 1 (by decide) (by omega)] at i1
    rw [ks, lo (3 + i) (by omega) (by omega)]
    exact r4 i i0 i1
  · rw [e0] at v1'
    by_cases e : v = s 0
    · subst e
      unfold wRel
      dsimp only
      rw [w1, w2, w3, w4, w5, w6]
      have q : ∀ b : Int, 0 ≤ b → b ≤ 6 → rWord T s a l f sp h w (13 + 19 * s 0 + b) = if b = 0 then f else if b = 1 then sp else if b = 2 then h else if b = 3 then w else if b = 4 then -1 else if b = 5 then -1 else l := fun b b0 b1 => by
        unfold rWord
        rw [if_neg (by omega), if_neg (by omega)]
        have hb : b = 0 ∨ b = 1 ∨ b = 2 ∨ b = 3 ∨ b = 4 ∨ b = 5 ∨ b = 6 := by omega
        rcases hb with rfl | rfl | rfl | rfl | rfl | rfl | rfl <;> simp
        all_goals (intros; omega)
      rw [q 6 (by decide) (by decide), q 0 (by decide) (by decide), q 1 (by decide) (by decide), q 2 (by decide) (by decide), q 3 (by decide) (by decide), q 4 (by decide) (by decide), q 5 (by decide) (by decide)]
      refine ⟨rfl, rfl, rfl, rfl, rfl, Or.inl ⟨rfl, rfl⟩, fun j j0 j1 => ?_⟩
      have j1 : j < l := j1
      rw [wl j j0 j1]
      unfold rWord
      rw [if_pos (by omega)]
      congr 1
      omega
    · have ko := ko v v0 (by omega)
      rw [ko.1, ko.2]
      have h6 := (v5 v v0 (by omega)).1
      dsimp only at h6
      obtain ⟨q1, q2, q3, q4, q5, q6, q7⟩ := r5 v v0 (by omega)
      dsimp only at q1 q2 q3 q4 q5 q6 q7
      unfold wRel
      dsimp only
      rw [lo (13 + 19 * v + 6) (by omega) (by omega), lo (13 + 19 * v + 0) (by omega) (by omega), lo (13 + 19 * v + 1) (by omega) (by omega), lo (13 + 19 * v + 2) (by omega) (by omega), lo (13 + 19 * v + 3) (by omega) (by omega), lo (13 + 19 * v + 4) (by omega) (by omega), lo (13 + 19 * v + 5) (by omega) (by omega)]
      refine ⟨q1, q2, q3, q4, q5, q6, fun j j0 j1 => ?_⟩
      rw [lo (13 + 19 * v + (7 + j)) (by omega) (by omega)]
      exact q7 j j0 j1
theorem mOkr_word {s T : Int → Int} {a l f sp h w : Int} (hv : mOkr s) (h12 : s 0 < 12) (hl : 1 ≤ l ∧ l ≤ 12) (hf : 0 ≤ f ∧ f ≤ 2000) (hs : 1 ≤ sp ∧ sp ≤ 60) (hh : 0 ≤ h ∧ h ≤ 60) (hw : 0 ≤ w ∧ w ≤ 4) : mOkr (rWord T s a l f sp h w) := by
  obtain ⟨⟨v1, v2, v3, v4⟩, v5⟩ := hv
  have lo : ∀ b : Int, 0 < b → b < 13 + 19 * s 0 → rWord T s a l f sp h w b = s b := fun b b0 b1 => by
    unfold rWord
    rw [if_neg (by omega), if_neg (by omega), if_neg (by omega), if_neg (by omega), if_neg (by omega), if_neg (by omega), if_neg (by omega), if_neg (by omega), if_neg (by omega)]
  have e0 : rWord T s a l f sp h w 0 = s 0 + 1 := by
    unfold rWord
    rw [if_neg (by omega), if_pos rfl]
  refine ⟨⟨by rw [e0]; omega, by rw [lo 1 (by decide) (by omega)]; exact v2, by rw [lo 2 (by decide) (by omega)]; exact v3, fun i i0 i1 => ?_⟩, fun v v0 v1' => ?_⟩
  · rw [lo 1 (by decide) (by omega)] at i1
    rw [lo (3 + i) (by omega) (by omega)]
    exact v4 i i0 i1
  · rw [e0] at v1'
    by_cases e : v = s 0
    · subst e
      have q : ∀ b : Int, 0 ≤ b → b ≤ 6 → rWord T s a l f sp h w (13 + 19 * s 0 + b) = if b = 0 then f else if b = 1 then sp else if b = 2 then h else if b = 3 then w else if b = 4 then -1 else if b = 5 then -1 else l := fun b b0 b1 => by
        unfold rWord
        rw [if_neg (by omega), if_neg (by omega)]
        have hb : b = 0 ∨ b = 1 ∨ b = 2 ∨ b = 3 ∨ b = 4 ∨ b = 5 ∨ b = 6 := by omega
        rcases hb with rfl | rfl | rfl | rfl | rfl | rfl | rfl <;> simp
        all_goals (intros; omega)
      unfold mWv
      dsimp only
      rw [q 6 (by decide) (by decide), q 0 (by decide) (by decide), q 1 (by decide) (by decide), q 2 (by decide) (by decide), q 3 (by decide) (by decide), q 4 (by decide) (by decide), q 5 (by decide) (by decide)]
      exact ⟨hl, hf, hs, hh, hw, (show (-1 : Int) ≤ -1 ∧ (-1 : Int) ≤ 7 by decide), (show (-1 : Int) ≤ -1 ∧ (-1 : Int) ≤ 40 by decide), fun z => absurd rfl z⟩
    · exact mWv_c (fun q q0 q1 => lo _ (by omega) (by omega)) (v5 v v0 (by omega))
theorem sDi_lo {s t : Int → Int} (h : sDi s) (e1 : t 1 = s 1) (e : ∀ i, 0 ≤ i → i < s 1 → t (3 + i) = s (3 + i)) : sDi t := by
  intro i j i0 ij j1
  rw [e1] at j1
  rw [e i i0 (by omega), e j (by omega) j1]
  exact h i j i0 ij j1
theorem sDi_word {s T : Int → Int} {a l f sp h w : Int} (hd : sDi s) (hv : mOkr s) (hl : 1 ≤ l) : sDi (rWord T s a l f sp h w) := by
  obtain ⟨⟨v1, v2, v3, v4⟩, v5⟩ := hv
  have lo : ∀ b : Int, 0 < b → b < 13 + 19 * s 0 → rWord T s a l f sp h w b = s b := fun b b0 b1 => by
    unfold rWord
    rw [if_neg (by omega), if_neg (by omega), if_neg (by omega), if_neg (by omega), if_neg (by omega), if_neg (by omega), if_neg (by omega), if_neg (by omega), if_neg (by omega)]
  exact sDi_lo hd (lo 1 (by decide) (by omega)) (fun i i0 i1 => lo _ (by omega) (by omega))
theorem pIns_c {sh th : Int → Int} {f : Int} : ∀ n : Nat, (∀ i : Nat, i < n → sh i = th i) → pIns sh f n = pIns th f n := by
  intro n
  induction n with
  | zero => intro _; rfl
  | succ n ih =>
    intro h
    show (if f < sh n then pIns sh f n else n + 1) = if f < th n then pIns th f n else n + 1
    rw [h n (by omega), ih (fun i hi => h i (by omega))]
theorem rShot_o {s : Int → Int} {f b : Int} (h : b ≤ 2 ∨ 3 + s 1 < b) (h1 : b ≠ 1) (hn : 0 ≤ s 1) : rShot s f b = s b := by
  have k := pIns_le (fun i => s (3 + i)) f (s 1).toNat
  unfold rShot
  rw [if_neg h1, if_neg (by omega), if_neg (by omega)]
theorem rShot_1 {s : Int → Int} {f : Int} : rShot s f 1 = s 1 + 1 := by
  unfold rShot
  rw [if_pos rfl]
theorem rShot_i {s : Int → Int} {f i : Int} (h0 : 0 ≤ i) : rShot s f (3 + i) = if ((pIns (fun i => s (3 + i)) f (s 1).toNat : Nat) : Int) < i ∧ i ≤ s 1 then s (3 + (i - 1)) else if i = ((pIns (fun i => s (3 + i)) f (s 1).toNat : Nat) : Int) then f else s (3 + i) := by
  unfold rShot
  rw [if_neg (by omega)]
  by_cases h1 : ((pIns (fun i => s (3 + i)) f (s 1).toNat : Nat) : Int) < i ∧ i ≤ s 1
  · rw [if_pos (by omega), if_pos h1]
    congr 1
    omega
  · rw [if_neg (by omega), if_neg h1]
    by_cases h2 : i = ((pIns (fun i => s (3 + i)) f (s 1).toNat : Nat) : Int)
    · rw [if_pos (by omega), if_pos h2]
    · rw [if_neg (by omega), if_neg h2]
/-- a new shot -/
theorem Rel_shot {I : fM} {P : fN} {sc : Nat} {s : Int → Int} {f : Int} (hr : Rel I P sc s) (hv : mOkr s) (hs : fSc sc) (hp : fPs P sc) (h10 : s 1 < 10) : Rel (xIns I sc f) P sc (rShot s f) := by
  obtain ⟨hs0, hs1, hs2, hs3, hs4, hs5, hs6⟩ := fSc_k hs
  obtain ⟨r1, r2, r3, r4, r5⟩ := hr
  obtain ⟨⟨v1, v2, v3, v4⟩, v5⟩ := hv
  have k := pIns_le (fun i => s (3 + i)) f (s 1).toNat
  have ep : pIns (fun i => I (sc + 2) i) f (I sc 3).toNat = pIns (fun i => s (3 + i)) f (s 1).toNat := by
    rw [r2]
    exact pIns_c _ (fun i hi => r4 i (by omega) (by omega))
  refine ⟨?_, ?_, ?_, fun i i0 i1 => ?_, fun w w0 w1 => ?_⟩
  · rw [rShot_o (by omega) (by decide) v2.1]
    unfold xIns
    rw [fup_j (by decide)]
    unfold fIns
    rw [if_neg (by omega), if_neg (by omega)]
    exact r1
  · rw [rShot_1]
    unfold xIns
    rw [fup_s, r2]
  · rw [rShot_o (by omega) (by decide) v2.1]
    unfold xIns
    rw [fup_j (by decide)]
    unfold fIns
    rw [if_neg (by omega), if_neg (by omega)]
    exact r3
  · rw [rShot_1] at i1
    rw [rShot_i i0]
    unfold xIns
    rw [fup_k (by omega), ep, r2]
    unfold fIns
    by_cases h1 : ((pIns (fun i => s (3 + i)) f (s 1).toNat : Nat) : Int) < i ∧ i ≤ s 1
    · rw [if_pos ⟨rfl, by omega, by omega⟩, if_pos h1]
      exact r4 (i - 1) (by omega) (by omega)
    · rw [if_neg (by omega), if_neg h1]
      by_cases h2 : i = ((pIns (fun i => s (3 + i)) f (s 1).toNat : Nat) : Int)
      · rw [if_pos ⟨rfl, by omega⟩, if_pos h2]
      · rw [if_neg (by omega), if_neg h2]
        exact r4 i i0 (by omega)
  · rw [rShot_o (by omega) (by decide) v2.1] at w1
    obtain ⟨j, hj, e⟩ := hp.1 w w0 (by omega)
    have ex : ∀ a : Nat, sc + 6 ≤ a → xIns I sc f a = I a := fun a ha => by
      unfold xIns
      rw [fup_ne (by omega)]
      funext b
      unfold fIns
      rw [if_neg (by omega), if_neg (by omega)]
    rw [ex _ (by omega), ex _ (by omega)]
    have er : (fun q => rShot s f (13 + 19 * w + q)) = fun q => if 13 + 19 * w + q ≤ 12 then rShot s f (13 + 19 * w + q) else s (13 + 19 * w + q) := by
      funext q
      split
      · rfl
      · exact rShot_o (by omega) (by omega) v2.1
    have h6 := (v5 w w0 w1).1
    dsimp only at h6
    obtain ⟨q1, q2, q3, q4, q5, q6, q7⟩ := r5 w w0 w1
    dsimp only at q1 q2 q3 q4 q5 q6 q7
    unfold wRel
    dsimp only
    rw [rShot_o (b := 13 + 19 * w + 6) (by omega) (by omega) v2.1, rShot_o (b := 13 + 19 * w + 0) (by omega) (by omega) v2.1, rShot_o (b := 13 + 19 * w + 1) (by omega) (by omega) v2.1, rShot_o (b := 13 + 19 * w + 2) (by omega) (by omega) v2.1, rShot_o (b := 13 + 19 * w + 3) (by omega) (by omega) v2.1, rShot_o (b := 13 + 19 * w + 4) (by omega) (by omega) v2.1, rShot_o (b := 13 + 19 * w + 5) (by omega) (by omega) v2.1]
    refine ⟨q1, q2, q3, q4, q5, q6, fun j j0 j1 => ?_⟩
    rw [rShot_o (b := 13 + 19 * w + (7 + j)) (by omega) (by omega) v2.1]
    exact q7 j j0 j1
theorem mOkr_shot {s : Int → Int} {f : Int} (hv : mOkr s) (h10 : s 1 < 10) (hf : 1 ≤ f ∧ f ≤ 3000) : mOkr (rShot s f) := by
  obtain ⟨⟨v1, v2, v3, v4⟩, v5⟩ := hv
  have k := pIns_le (fun i => s (3 + i)) f (s 1).toNat
  refine ⟨⟨by rw [rShot_o (by omega) (by decide) v2.1]; exact v1, by rw [rShot_1]; omega, by rw [rShot_o (by omega) (by decide) v2.1]; exact v3, fun i i0 i1 => ?_⟩, fun w w0 w1 => ?_⟩
  · rw [rShot_1] at i1
    rw [rShot_i i0]
    split
    · exact v4 (i - 1) (by omega) (by omega)
    · split
      · exact hf
      · exact v4 i i0 (by omega)
  · rw [rShot_o (by omega) (by decide) v2.1] at w1
    exact mWv_c (fun q q0 q1 => rShot_o (by omega) (by omega) v2.1) (v5 w w0 w1)
theorem sDi_shot {s : Int → Int} {f : Int} (hd : sDi s) (hn : 0 ≤ s 1) (hf : ¬ hasS s f) : sDi (rShot s f) := by
  have k := pIns_le (fun i => s (3 + i)) f (s 1).toNat
  have no : ∀ i : Int, 0 ≤ i → i < s 1 → s (3 + i) ≠ f := fun i i0 i1 z => hf ⟨i, i0, i1, z⟩
  have di : ∀ i j : Int, 0 ≤ i → i < s 1 → 0 ≤ j → j < s 1 → i ≠ j → s (3 + i) ≠ s (3 + j) := fun i j i0 i1 j0 j1 e => by
    rcases Int.lt_or_le i j with z | z
    · exact hd i j i0 z j1
    · exact fun q => hd j i j0 (by omega) i1 q.symm
  intro i j i0 ij j1
  rw [rShot_1] at j1
  rw [rShot_i i0, rShot_i (by omega)]
  by_cases a1 : ((pIns (fun i => s (3 + i)) f (s 1).toNat : Nat) : Int) < i ∧ i ≤ s 1
  · rw [if_pos a1, if_pos (by omega)]
    exact di _ _ (by omega) (by omega) (by omega) (by omega) (by omega)
  · rw [if_neg a1]
    by_cases a2 : i = ((pIns (fun i => s (3 + i)) f (s 1).toNat : Nat) : Int)
    · rw [if_pos a2, if_pos (by omega)]
      exact fun q => no _ (by omega) (by omega) q.symm
    · rw [if_neg a2]
      by_cases b1 : ((pIns (fun i => s (3 + i)) f (s 1).toNat : Nat) : Int) < j ∧ j ≤ s 1
      · rw [if_pos b1]
        exact di _ _ (by omega) (by omega) (by omega) (by omega) (by omega)
      · rw [if_neg b1]
        by_cases b2 : j = ((pIns (fun i => s (3 + i)) f (s 1).toNat : Nat) : Int)
        · rw [if_pos b2]
          exact no _ (by omega) (by omega)
        · rw [if_neg b2]
          exact di _ _ (by omega) (by omega) (by omega) (by omega) (by omega)
/-- what an item leaves: of a scene, of the present token -/
def itP (I : fM) (P : fN) (sc : Nat) (r : PI) (v : Option Value) (J : fM) : Prop := match r with
  | .inl p => v = some (.int (i32 (fB false))) ∧ tOff I J ∧ J 212 3 = p
  | .inr (.inl (a, l, f, sp, h, w, e)) => v = some (.int (i32 (fB true))) ∧ tOff (xWrd I P sc a l f sp h w) J ∧ J 212 4 = e ∧ (1 ≤ l ∧ l ≤ 12) ∧ (0 ≤ f ∧ f ≤ 2000) ∧ (1 ≤ sp ∧ sp ≤ 60) ∧ (0 ≤ h ∧ h ≤ 60) ∧ (0 ≤ w ∧ w ≤ 4) ∧ 0 ≤ a ∧ 0 ≤ e ∧ e ≤ I 212 1
  | .inr (.inr (f, e)) => v = some (.int (i32 (fB true))) ∧ tOff (xIns I sc f) J ∧ J 212 4 = e ∧ (1 ≤ f ∧ f ≤ 3000) ∧ 0 ≤ e ∧ e ≤ I 212 1
theorem tOff_tr {I J K : fM} (h : tOff I J) (k : tOff J K) : tOff I K := ⟨fun a ha => (k.1 a ha).trans (h.1 a ha), fun b h2 h3 h4 => (k.2 b h2 h3 h4).trans (h.2 b h2 h3 h4)⟩
theorem tOff_up {I J : fM} {k : Nat} {j x : Int} (h : tOff I J) (hk : k ≠ 212) : tOff (fup I k j x) (fup J k j x) := by
  refine ⟨fun a ha => ?_, fun b h2 h3 h4 => ?_⟩
  · funext b
    unfold fup
    rw [h.1 a ha]
  · rw [fup_k (by omega), fup_k (by omega)]
    exact h.2 b h2 h3 h4
theorem tOff_cp {I J : fM} {k1 k : Nat} {sp dp n : Int} (h : tOff I J) (hk : k ≠ 212) (h1 : k1 ≠ 212) : tOff (fcpy I k1 sp k dp n) (fcpy J k1 sp k dp n) := by
  refine ⟨fun a ha => ?_, fun b h2 h3 h4 => ?_⟩
  · funext b
    unfold fcpy
    rw [h.1 a ha, h.1 k1 h1]
  · rw [fcpy_k (by omega), fcpy_k (by omega)]
    exact h.2 b h2 h3 h4
theorem tOff_let {I J : fM} {k : Nat} {o n : Int} (h : tOff I J) (hk : k ≠ 212) : tOff (mLet I k o n) (mLet J k o n) := by
  refine ⟨fun a ha => ?_, fun b h2 h3 h4 => ?_⟩
  · funext b
    unfold mLet
    rw [h.1 a ha]
  · rw [mLet_k (by omega), mLet_k (by omega)]
    exact h.2 b h2 h3 h4
theorem tOff_app {I J : fM} {P : fN} {sc : Nat} {l f sp he w : Int} (h : tOff I J) (hs : fSc sc) (hp : fPs P sc) (hc : 0 ≤ I sc 1 ∧ I sc 1 < 12) : tOff (xApp I P sc l f sp he w) (xApp J P sc l f sp he w) := by
  obtain ⟨hs0, -⟩ := fSc_k hs
  obtain ⟨j, hj, e⟩ := hp.1 (I sc 1) hc.1 hc.2
  have e1 : J sc = I sc := h.1 sc (by omega)
  unfold xApp
  rw [e1]
  exact tOff_up (tOff_up (tOff_up (tOff_up (tOff_up (tOff_up (tOff_up (tOff_let h (by omega)) (by omega)) (by omega)) (by omega)) (by omega)) (by omega)) (by omega)) (by omega)
theorem tOff_ins {I J : fM} {sc : Nat} {f : Int} (h : tOff I J) (hs : fSc sc) : tOff (xIns I sc f) (xIns J sc f) := by
  obtain ⟨hs0, -⟩ := fSc_k hs
  have e1 : J sc = I sc := h.1 sc (by omega)
  have e2 : J (sc + 2) = I (sc + 2) := h.1 _ (by omega)
  unfold xIns
  rw [e1, e2]
  refine tOff_up ⟨fun a ha => ?_, fun b h2 h3 h4 => ?_⟩ (by omega)
  · funext b
    unfold fIns
    rw [e2, h.1 a ha]
  · unfold fIns
    rw [if_neg (by omega), if_neg (by omega), if_neg (by omega), if_neg (by omega)]
    exact h.2 b h2 h3 h4
theorem num_tok {I : fM} {e : Int} {T : Int → Int} {n : Int} (hT : I 213 = T) (k2 : I 212 2 = tK T n e) (k3 : I 212 3 = tS T n e) (k4 : I 212 4 = tE T n e) : (if I 212 2 = 2 ∧ ¬ (I 213 (I 212 3) = 48 ∧ 1 < I 212 4 - I 212 3) then tClip (dval (I 213) (I 212 3) (I 212 4 - I 212 3).toNat) else -1) = tClip (tNum T n e) := by
  rw [hT, k2, k3, k4]
  unfold tNum
  split
  · rfl
  · rfl
theorem tClip_in {v lo hi : Int} (h0 : 0 ≤ lo) (h1 : hi ≤ 4000) : (lo ≤ tClip v ∧ tClip v ≤ hi) ↔ (lo ≤ v ∧ v ≤ hi) := by
  unfold tClip
  split <;> omega
theorem tClip_eq {v lo hi : Int} (h0 : 0 ≤ lo) (h1 : hi ≤ 4000) (h : lo ≤ v ∧ v ≤ hi) : tClip v = v := by
  unfold tClip
  rw [if_pos (by omega)]
theorem tNum_b {T : Int → Int} {n e : Int} : -1 ≤ tClip (tNum T n e) ∨ True := Or.inr trivial
theorem hasS_iff {I : fM} {sc : Nat} {s : Int → Int} {f : Int} (h0 : 0 ≤ s 1) (h1 : I sc 3 = s 1) (h2 : ∀ i : Int, 0 ≤ i → i < s 1 → I (sc + 2) i = s (3 + i)) : xShotOf I sc f < I sc 3 ↔ hasS s f := by
  have k := sF_is (c := fun i => I (sc + 2) i = f) (a := 0) (b := I sc 3) (by omega)
  have e : sF (fun i => I (sc + 2) i = f) 0 (I sc 3) = xShotOf I sc f := rfl
  rw [e] at k
  constructor
  · intro z
    have k1 := k.1.1
    have k2 := k.2.2 z
    exact ⟨xShotOf I sc f, k1, by omega, by rw [← h2 _ k1 (by omega)]; exact k2⟩
  · rintro ⟨i, i0, i1, i2⟩
    rcases Int.lt_or_le (xShotOf I sc f) (I sc 3) with z | z
    · exact z
    · exact absurd (show I (sc + 2) i = f by rw [h2 i i0 i1]; exact i2) (k.2.1 i i0 (by omega))
