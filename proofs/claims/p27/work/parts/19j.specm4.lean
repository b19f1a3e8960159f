/-! SPEC M4: the reference's array as a row; its put, earliest, putAll -/
def rsv (s : Int → Int) (j x : Int) : Int → Int := fun b => if b = j then x else s b
theorem rsv_s (s : Int → Int) (j x : Int) : rsv s j x j = x := if_pos rfl
theorem rsv_n {s : Int → Int} {j x b : Int} (h : b ≠ j) : rsv s j x b = s b := if_neg h
theorem fup_r {I : fM} {k : Nat} {j x : Int} : fup I k j x k = rsv (I k) j x := by
  funext b
  unfold fup rsv
  simp
/-- an array that can be -/
def mOkr (s : Int → Int) : Prop := ((0 ≤ s 0 ∧ s 0 ≤ 12) ∧ (0 ≤ s 1 ∧ s 1 ≤ 10) ∧ (50 ≤ s 2 ∧ s 2 ≤ 400) ∧ ∀ i, 0 ≤ i → i < s 1 → 1 ≤ s (3 + i) ∧ s (3 + i) ≤ 3000) ∧ ∀ w, 0 ≤ w → w < s 0 → mWv (fun q => s (13 + 19 * w + q))
theorem mOkr_sv {I : fM} {s : Int → Int} (e : I 215 = s) (h : mOkr s) : mSv I := by subst e; exact h.1
theorem mOkr_wv {I : fM} {s : Int → Int} (e : I 215 = s) (h : mOkr s) : ∀ w : Int, 0 ≤ w → w < I 215 0 → mWv (mR I w) := by subst e; exact h.2
theorem mOkr_of {I : fM} (h : mSv I) (k : ∀ w : Int, 0 ≤ w → w < I 215 0 → mWv (mR I w)) : mOkr (I 215) := ⟨h, k⟩
theorem mWv_c {r q : Int → Int} (h : ∀ b, 0 ≤ b → b ≤ 6 → r b = q b) (k : mWv q) : mWv r := by
  unfold mWv at *
  rw [h 0 (by decide) (by decide), h 1 (by decide) (by decide), h 2 (by decide) (by decide), h 3 (by decide) (by decide), h 4 (by decide) (by decide), h 5 (by decide) (by decide), h 6 (by decide) (by decide)]
  exact k
/-- an array with one word changed -/
theorem mOkr_row {s t : Int → Int} {w : Int} (h : mOkr s) (ho : ∀ b, (b < 13 + 19 * w ∨ 13 + 19 * w + 19 ≤ b) → t b = s b) (h0 : 0 ≤ w) (hw : w < s 0 → mWv (fun q => t (13 + 19 * w + q))) : mOkr t := by
  obtain ⟨⟨a, b, c, d⟩, k⟩ := h
  have e0 : t 0 = s 0 := ho 0 (by omega)
  have e1 : t 1 = s 1 := ho 1 (by omega)
  have e2 : t 2 = s 2 := ho 2 (by omega)
  refine ⟨⟨by rw [e0]; exact a, by rw [e1]; exact b, by rw [e2]; exact c, fun i i0 i1 => ?_⟩, fun v v0 v1 => ?_⟩
  · rw [e1] at i1
    rw [ho (3 + i) (by omega)]
    exact d i i0 i1
  · rw [e0] at v1
    by_cases e : v = w
    · subst e; exact hw v1
    · exact mWv_c (fun q q0 q1 => ho _ (by omega)) (k v v0 v1)
def rLay (s : Int → Int) (w la co : Int) : Int → Int := rsv (rsv s (13 + 19 * w + 4) la) (13 + 19 * w + 5) co
def rOff (s : Int → Int) (w : Int) : Int → Int := rLay s w (-1) (-1)
theorem mLay_row {I : fM} {w la co : Int} : mLay I w la co 215 = rLay (I 215) w la co := by
  unfold mLay rLay
  rw [fup_r, fup_r]
theorem mOff_row {I : fM} {w : Int} : mOff I w 215 = rOff (I 215) w := by
  unfold mOff rOff rLay
  rw [fup_r, fup_r]
theorem rLay_o {s : Int → Int} {w la co b : Int} (h4 : b ≠ 13 + 19 * w + 4) (h5 : b ≠ 13 + 19 * w + 5) : rLay s w la co b = s b := by
  unfold rLay
  rw [rsv_n h5, rsv_n h4]
theorem rLay_4 {s : Int → Int} {w la co : Int} : rLay s w la co (13 + 19 * w + 4) = la := by
  unfold rLay
  rw [rsv_n (by omega), rsv_s]
theorem rLay_5 {s : Int → Int} {w la co : Int} : rLay s w la co (13 + 19 * w + 5) = co := by
  unfold rLay
  rw [rsv_s]
theorem rLay_wv {s : Int → Int} {w la co : Int} (hv : mWv (fun q => s (13 + 19 * w + q))) (hp : (la = -1 ∧ co = -1) ∨ ((0 ≤ la ∧ la ≤ 7) ∧ 0 ≤ co ∧ co + s (13 + 19 * w + 6) ≤ 40)) : mWv (fun q => rLay s w la co (13 + 19 * w + q)) := by
  obtain ⟨v1, v2, v3, v4, v5, v6, v7, v8⟩ := hv
  dsimp only at v1 v2 v3 v4 v5 v6 v7 v8
  unfold mWv
  dsimp only
  rw [rLay_o (b := 13 + 19 * w + 6) (by omega) (by omega), rLay_o (b := 13 + 19 * w + 0) (by omega) (by omega), rLay_o (b := 13 + 19 * w + 1) (by omega) (by omega), rLay_o (b := 13 + 19 * w + 2) (by omega) (by omega), rLay_o (b := 13 + 19 * w + 3) (by omega) (by omega), rLay_4, rLay_5]
  exact ⟨v1, v2, v3, v4, v5, by omega, by omega, by omega⟩
theorem mOkr_lay {s : Int → Int} {w la co : Int} (h : mOkr s) (h0 : 0 ≤ w) (hp : (la = -1 ∧ co = -1) ∨ ((0 ≤ la ∧ la ≤ 7) ∧ 0 ≤ co ∧ co + s (13 + 19 * w + 6) ≤ 40)) : mOkr (rLay s w la co) :=
  mOkr_row h (fun b hb => rLay_o (by omega) (by omega)) h0 (fun z => rLay_wv (h.2 w h0 z) hp)
theorem mOkr_off {s : Int → Int} {w : Int} (h : mOkr s) (h0 : 0 ≤ w) : mOkr (rOff s w) := mOkr_lay h h0 (Or.inl ⟨rfl, rfl⟩)
theorem mOkr_first {s : Int → Int} {w f : Int} (h : mOkr s) (h0 : 0 ≤ w) (hf : 0 ≤ f ∧ f ≤ 2000) : mOkr (rsv s (13 + 19 * w + 0) f) := by
  refine mOkr_row h (fun b hb => rsv_n (by omega)) h0 (fun z => ?_)
  obtain ⟨v1, v2, v3, v4, v5, v6, v7, v8⟩ := h.2 w h0 z
  dsimp only at v1 v2 v3 v4 v5 v6 v7 v8
  unfold mWv
  dsimp only
  rw [rsv_n (b := 13 + 19 * w + 6) (by omega), rsv_s, rsv_n (b := 13 + 19 * w + 1) (by omega), rsv_n (b := 13 + 19 * w + 2) (by omega), rsv_n (b := 13 + 19 * w + 3) (by omega), rsv_n (b := 13 + 19 * w + 4) (by omega), rsv_n (b := 13 + 19 * w + 5) (by omega)]
  exact ⟨v1, hf, v3, v4, v5, v6, v7, v8⟩
theorem rLay_lay {s : Int → Int} {w a b c d : Int} : rLay (rLay s w a b) w c d = rLay s w c d := by
  funext x
  by_cases h5 : x = 13 + 19 * w + 5
  · subst h5; rw [rLay_5, rLay_5]
  · by_cases h4 : x = 13 + 19 * w + 4
    · subst h4; rw [rLay_4, rLay_4]
    · rw [rLay_o h4 h5, rLay_o h4 h5, rLay_o h4 h5]
theorem mLay_lay {I : fM} {w a b c d : Int} : mLay (mLay I w a b) w c d = mLay I w c d := by
  funext k
  by_cases e : k = 215
  · subst e; rw [mLay_row, mLay_row, mLay_row, rLay_lay]
  · rw [mLay_o e, mLay_o e, mLay_o e]
theorem mOff_lay {I : fM} {w a b : Int} : mOff (mLay I w a b) w = mOff I w := mLay_lay
/-- whether a word meets any other one -/
noncomputable def mMA (s : Int → Int) (w : Int) : Bool := sMAnyB (fun i => i ≠ w ∧ s (13 + 19 * i + 4) ≠ -1 ∧ sMetM (s 2) (s 1) (fun i => s (3 + i)) (fun q => s (13 + 19 * w + q)) (fun q => s (13 + 19 * i + q)) ≠ -19) (s 0)
/-- two memories that differ in the reference's scratch rows alone -/
def zEq (I J : fM) : Prop := ∀ a : Nat, a ≠ 216 → a ≠ 219 → J a = I a
theorem zEq_r (I : fM) : zEq I I := fun _ _ _ => rfl
theorem zEq_act {I J : fM} (h : zEq I J) : zEq (mAct I) (mAct J) := by
  have e4 : J 214 = I 214 := h _ (by decide) (by decide)
  have e5 : J 215 = I 215 := h _ (by decide) (by decide)
  have e7 : J 217 = I 217 := h _ (by decide) (by decide)
  intro a h1 h2
  have ea := h a h1 h2
  funext b
  unfold mAct
  rw [e4]
  split
  · unfold fup fcpy
    simp only [e4, e5, e7, ea]
  · unfold fup fcpy
    simp only [e4, e5, e7, ea]
theorem zEq_up {I K : fM} {k : Nat} {j x : Int} (h : zEq I K) : zEq (fup I k j x) (fup K k j x) := by
  intro a h1 h2
  funext b
  unfold fup
  rw [h a h1 h2]
theorem zEq_lay {I K : fM} {w la co : Int} (h : zEq I K) : zEq (mLay I w la co) (mLay K w la co) := zEq_up (zEq_up h)
/-- tried aside and exchanged back: the array is as it was -/
theorem fx_back {I J : fM} (h6 : ∀ b, 0 ≤ b → b < 241 → J 216 b = I 215 b) (h5 : ∀ b, (b < 0 ∨ 241 ≤ b) → J 215 b = I 215 b) (ho : ∀ a : Nat, a ≠ 215 → a ≠ 216 → J a = I a) : zEq I (fxch J 241) := by
  intro a h1 _
  funext b
  unfold fxch
  by_cases e : a = 215
  · subst e
    by_cases hb : 0 ≤ b ∧ b < 241
    · rw [if_pos ⟨rfl, hb⟩]
      exact h6 b hb.1 hb.2
    · rw [if_neg (fun z => hb z.2), if_neg (fun z => absurd z.1 (by decide))]
      exact h5 b (by omega)
  · rw [if_neg (fun z => e z.1), if_neg (fun z => h1 z.1)]
    rw [ho a e h1]
abbrev mPl (I : fM) (w la co : Int) : Prop := (0 ≤ w ∧ w < I 215 0) ∧ (0 ≤ la ∧ la ≤ 7) ∧ 0 ≤ co ∧ co + I 215 (13 + 19 * w + 6) ≤ 40
/-- a word tried at a place from a frame on -/
def rTry (s : Int → Int) (w f la co : Int) : Int → Int := rsv (rLay s w la co) (13 + 19 * w + 0) f
theorem rTry_up {s : Int → Int} {w f g la co : Int} : rsv (rTry s w g la co) (13 + 19 * w + 0) f = rTry s w f la co := by
  funext b
  unfold rTry rsv
  split <;> rfl
theorem rTry_0 {s : Int → Int} {w la co : Int} : rTry s w (s (13 + 19 * w + 0)) la co = rLay s w la co := by
  funext b
  unfold rTry rsv
  split
  · rename_i h
    rw [h, rLay_o (by omega) (by omega)]
  · rfl
noncomputable def mEarF (I : fM) (w la co : Int) : Int := sF (fun f => mMA (rTry (I 215) w f la co) w = false) (I 215 (13 + 19 * w + 0)) 2001
noncomputable def qMEar (I : fM) (w la co : Int) : Int := if mPl I w la co then (if mEarF I w la co < 2001 then mEarF I w la co else -19) else -11
/-- what the array is when a word has been put at its first free place -/
abbrev rFr (s : Int → Int) (w : Int) : Int → Int → Prop := fun la co => mMA (rLay s w la co) w = false
noncomputable def rPlace (s : Int → Int) (w : Int) : Int → Int := if sLF (rFr s w) (40 - s (13 + 19 * w + 6)) < 8 then rLay s w (sLane (sLF (rFr s w) (40 - s (13 + 19 * w + 6)))) (sTurn (40 - s (13 + 19 * w + 6)) (sTF (rFr s w) (40 - s (13 + 19 * w + 6)) (sLane (sLF (rFr s w) (40 - s (13 + 19 * w + 6)))))) else rOff s w
noncomputable def rPutN (s o : Int → Int) : Nat → Int → Int
  | 0 => s
  | n + 1 => rPlace (rPutN s o n) (o n)
theorem rPutN_s {s o : Int → Int} {i : Int} (h : 0 ≤ i) : rPutN s o (i + 1).toNat = rPlace (rPutN s o i.toNat) (o i) := by
  obtain ⟨n, hn⟩ : ∃ n : Nat, i = n := ⟨i.toNat, by omega⟩
  subst hn
  rw [show ((n : Int) + 1).toNat = n + 1 by omega, show ((n : Int)).toNat = n by omega]
  rfl
/-- the first n words taken -/
def rOffN (s : Int → Int) : Nat → Int → Int
  | 0 => s
  | n + 1 => rOff (rOffN s n) n
theorem rOffN_s {s : Int → Int} {i : Int} (h : 0 ≤ i) : rOffN s (i + 1).toNat = rOff (rOffN s i.toNat) i := by
  obtain ⟨n, hn⟩ : ∃ n : Nat, i = n := ⟨i.toNat, by omega⟩
  subst hn
  rw [show ((n : Int) + 1).toNat = n + 1 by omega, show ((n : Int)).toNat = n by omega]
  rfl
theorem rOffN_o {s : Int → Int} {b : Int} : ∀ n : Nat, (∀ w : Int, 0 ≤ w → w < n → b ≠ 13 + 19 * w + 4 ∧ b ≠ 13 + 19 * w + 5) → rOffN s n b = s b := by
  intro n
  induction n with
  | zero => intro _; rfl
  | succ n ih =>
    intro h
    have k := h n (by omega) (by omega)
    show rOff (rOffN s n) n b = s b
    unfold rOff
    rw [rLay_o k.1 k.2]
    exact ih (fun w h0 h1 => h w h0 (by omega))
theorem rOffN_ok {s : Int → Int} (h : mOkr s) : ∀ n : Nat, mOkr (rOffN s n) := by
  intro n
  induction n with
  | zero => exact h
  | succ n ih => exact mOkr_off ih (by omega)
theorem rPlace_o {s : Int → Int} {w b : Int} (h4 : b ≠ 13 + 19 * w + 4) (h5 : b ≠ 13 + 19 * w + 5) : rPlace s w b = s b := by
  unfold rPlace
  split
  · exact rLay_o h4 h5
  · exact rLay_o h4 h5
theorem rPlace_ok {s : Int → Int} {w : Int} (h : mOkr s) (h0 : 0 ≤ w) : mOkr (rPlace s w) := by
  unfold rPlace
  split
  · rename_i hl
    have h8 := (sLF_is (rFr s w) (40 - s (13 + 19 * w + 6))).2.2 hl
    have h9 := ((sTF_is (rFr s w) (40 - s (13 + 19 * w + 6)) (sLane (sLF (rFr s w) (40 - s (13 + 19 * w + 6))))).2.2 h8).1
    exact mOkr_lay h h0 (Or.inr ⟨sLane_b _, h9.1, by omega⟩)
  · exact mOkr_off h h0
theorem rPutN_ok {s o : Int → Int} {m : Nat} (h : mOkr s) (ho : ∀ i : Int, 0 ≤ i → i < m → 0 ≤ o i) : ∀ n : Nat, n ≤ m → mOkr (rPutN s o n) := by
  intro n
  induction n with
  | zero => intro _; exact h
  | succ n ih => intro hn; exact rPlace_ok (ih (by omega)) (ho n (by omega) (by omega))
theorem rPutN_o {s o : Int → Int} {b : Int} (hb : ∀ w : Int, b ≠ 13 + 19 * w + 4 ∧ b ≠ 13 + 19 * w + 5) : ∀ n : Nat, rPutN s o n b = s b := by
  intro n
  induction n with
  | zero => rfl
  | succ n ih =>
    show rPlace (rPutN s o n) (o n) b = s b
    rw [rPlace_o (hb _).1 (hb _).2]
    exact ih
/-- one to one into itself: onto -/
theorem pig : ∀ (n : Nat) (o : Nat → Nat), (∀ i, i < n → o i < n) → (∀ i j, i < n → j < n → o i = o j → i = j) → ∀ k, k < n → ∃ j, j < n ∧ o j = k := by
  intro n
  induction n with
  | zero => intro o _ _ k hk; omega
  | succ n ih =>
    intro o hr hi k hk
    have hv := hr n (by omega)
    have key := ih (fun j => if o j = n then o n else o j) (fun j hj => by
      (try dsimp only)
      by_cases e : o j = n
      · rw [if_pos e]
        have : o n ≠ n := fun z => by have := hi n j (by omega) (by omega) (by omega); omega
        omega
      · rw [if_neg e]
        have := hr j (by omega)
        omega) (fun i j h1 h2 e => by
      (try dsimp only at e)
      by_cases e1 : o i = n
      · by_cases e2 : o j = n
        · exact hi i j (by omega) (by omega) (by omega)
        · rw [if_pos e1, if_neg e2] at e
          have := hi n j (by omega) (by omega) e
          omega
      · by_cases e2 : o j = n
        · rw [if_neg e1, if_pos e2] at e
          have := hi i n (by omega) (by omega) e
          omega
        · rw [if_neg e1, if_neg e2] at e
          exact hi i j (by omega) (by omega) e)
    by_cases k1 : k = o n
    · exact ⟨n, by omega, k1.symm⟩
    · by_cases k2 : k = n
      · obtain ⟨j, hj, e⟩ := key (o n) (by omega)
        (try dsimp only at e)
        by_cases e1 : o j = n
        · exact ⟨j, by omega, by omega⟩
        · rw [if_neg e1] at e
          have := hi j n (by omega) (by omega) e
          omega
      · obtain ⟨j, hj, e⟩ := key k (by omega)
        (try dsimp only at e)
        by_cases e1 : o j = n
        · rw [if_pos e1] at e
          omega
        · rw [if_neg e1] at e
          exact ⟨j, by omega, e⟩
theorem sOrd_inj {len fi o : Int → Int} {n i j : Int} (h : sOrd len fi n o) (i0 : 0 ≤ i) (i1 : i < n) (j0 : 0 ≤ j) (j1 : j < n) (e : o i = o j) : i = j := by
  rcases Int.lt_trichotomy i j with z | z | z
  · have := h.2 i j i0 z j1
    rw [e] at this
    exact absurd this (by unfold sAhead; omega)
  · exact z
  · have := h.2 j i j0 z i1
    rw [e] at this
    exact absurd this (by unfold sAhead; omega)
theorem sOrd_sur {len fi o : Int → Int} {n k : Int} (h : sOrd len fi n o) (k0 : 0 ≤ k) (k1 : k < n) : ∃ j : Int, (0 ≤ j ∧ j < n) ∧ o j = k := by
  obtain ⟨j, hj, e⟩ := pig n.toNat (fun i => (o i).toNat) (fun i hi => by have := h.1 i (by omega) (by omega); (try dsimp only); omega) (fun i j hi hj e => by
    have b1 := h.1 i (by omega) (by omega)
    have b2 := h.1 j (by omega) (by omega)
    have := sOrd_inj h (i := i) (j := j) (by omega) (by omega) (by omega) (by omega) (by (try dsimp only at e); omega)
    omega) k.toNat (by omega)
  have b := h.1 j (by omega) (by omega)
  exact ⟨j, by omega, by (try dsimp only at e); omega⟩
/-- what the search for the next word finds -/
def sNext (len fi d : Int → Int) (n r : Int) : Prop := (r = -19 ∧ ∀ j, 0 ≤ j → j < n → d j = 1) ∨ ((0 ≤ r ∧ r < n) ∧ d r = 0 ∧ ∀ j, 0 ≤ j → j < n → d j = 0 → j ≠ r → sAhead len fi r j)
/-- the words done are the first i of an order: the next one is the order's -/
theorem sNext_is {len fi d o : Int → Int} {n i r : Int} (hO : sOrd len fi n o) (hi : 0 ≤ i ∧ i ≤ n) (hd : ∀ j, 0 ≤ j → j < n → d (o j) = if j < i then 1 else 0) (h : sNext len fi d n r) : r = if i < n then o i else -19 := by
  rcases h with ⟨h1, h2⟩ | ⟨h1, h2, h3⟩
  · by_cases z : i < n
    · have b := hO.1 i hi.1 z
      have e := hd i hi.1 z
      rw [if_neg (by omega), h2 _ b.1 b.2] at e
      omega
    · rw [if_neg z]
      exact h1
  · obtain ⟨j, hj, e⟩ := sOrd_sur hO h1.1 h1.2
    have e2 := hd j hj.1 hj.2
    rw [e, h2] at e2
    have hji : ¬ j < i := fun z => by rw [if_pos z] at e2; omega
    have z : i < n := by omega
    rw [if_pos z]
    by_cases q : j = i
    · rw [← q]
      exact e.symm
    · have b := hO.1 i hi.1 z
      have e3 := hd i hi.1 z
      rw [if_neg (by omega)] at e3
      have a1 := h3 (o i) b.1 b.2 e3 (fun y => q (sOrd_inj hO hj.1 hj.2 hi.1 z (by omega)))
      have a2 := hO.2 i j hi.1 (by omega) hj.2
      rw [e] at a2
      exact absurd a1 (sAhead_no a2)
theorem fcpy_ne {I : fM} {k1 k2 a : Nat} {sp dp n : Int} (h : a ≠ k2) : fcpy I k1 sp k2 dp n a = I a := by
  funext b
  exact fcpy_k h
theorem sNext_0 (len fi d : Int → Int) : sNext len fi d 0 (-19) := Or.inl ⟨rfl, fun j h1 h2 => by omega⟩
theorem sNext_r {len fi d : Int → Int} {k r : Int} (h : sNext len fi d k r) (hr : r ≠ -19) : 0 ≤ r ∧ r < k := by
  rcases h with h | h
  · exact absurd h.1 hr
  · exact h.1
theorem sNext_b {len fi d : Int → Int} {k r : Int} (h : sNext len fi d k r) (hk : k ≤ 12) : -19 ≤ r ∧ r ≤ 12 := by
  rcases h with h | h
  · have := h.1; omega
  · have := h.1; omega
theorem sNext_skip {len fi d : Int → Int} {k r : Int} (h : sNext len fi d k r) (hd : d k = 1) : sNext len fi d (k + 1) r := by
  rcases h with ⟨h1, h2⟩ | ⟨h1, h2, h3⟩
  · refine Or.inl ⟨h1, fun j j0 j1 => ?_⟩
    by_cases e : j = k
    · rw [e]; exact hd
    · exact h2 j j0 (by omega)
  · refine Or.inr ⟨by omega, h2, fun j j0 j1 dj jr => ?_⟩
    by_cases e : j = k
    · rw [e, hd] at dj; omega
    · exact h3 j j0 (by omega) dj jr
theorem sNext_keep {len fi d : Int → Int} {k r : Int} (h : sNext len fi d k r) (hr : r ≠ -19) (ha : sAhead len fi r k) : sNext len fi d (k + 1) r := by
  rcases h with ⟨h1, h2⟩ | ⟨h1, h2, h3⟩
  · exact absurd h1 hr
  · refine Or.inr ⟨by omega, h2, fun j j0 j1 dj jr => ?_⟩
    by_cases e : j = k
    · rw [e]; exact ha
    · exact h3 j j0 (by omega) dj jr
theorem sNext_take {len fi d : Int → Int} {k r : Int} (h : sNext len fi d k r) (h0 : 0 ≤ k) (hd : d k = 0) (ha : r = -19 ∨ sAhead len fi k r) : sNext len fi d (k + 1) k := by
  refine Or.inr ⟨by omega, hd, fun j j0 j1 dj jr => ?_⟩
  rcases h with ⟨h1, h2⟩ | ⟨h1, h2, h3⟩
  · have := h2 j j0 (by omega)
    omega
  · have ha2 : sAhead len fi k r := by
      rcases ha with z | z
      · omega
      · exact z
    by_cases e : j = r
    · rw [e]; exact ha2
    · exact sAhead_tr ha2 (h3 j j0 (by omega) dj e)
theorem rFr_off {s : Int → Int} {w : Int} : rFr (rOff s w) w = rFr s w := by
  funext la co
  unfold rFr rOff
  rw [rLay_lay]
/-- how far the search for a word's first free lane has come -/
def paI (J1 : fM) (w mo : Int) (s : Int → Int) (tm : Int) (b : Bool) (K : fM) : Prop := (b = false ∧ tm ≤ sLF (rFr s w) mo ∧ ((K = J1 ∧ tm = 0) ∨ K = mOff J1 w)) ∨ (b = true ∧ sLF (rFr s w) mo < 8 ∧ K = mLay J1 w (sLane (sLF (rFr s w) mo)) (sTurn mo (sTF (rFr s w) mo (sLane (sLF (rFr s w) mo)))))
theorem pa_0 {J1 : fM} {w mo : Int} {s : Int → Int} : paI J1 w mo s 0 false J1 := Or.inl ⟨rfl, (sLF_is _ _).1.1, Or.inl ⟨rfl, rfl⟩⟩
theorem pa_row {J1 K : fM} {w mo tm : Int} {s : Int → Int} {b : Bool} (hs : J1 215 = s) (h : paI J1 w mo s tm b K) (hb : b = false) : (∀ la co, mLay K w la co = mLay J1 w la co) ∧ mOff K w = mOff J1 w ∧ rFr (K 215) w = rFr s w ∧ (K 215 = s ∨ K 215 = rOff s w) := by
  rcases h with ⟨-, -, h | h⟩ | ⟨h, -⟩
  · rw [h.1, hs]
    exact ⟨fun _ _ => rfl, rfl, rfl, Or.inl rfl⟩
  · rw [h, mOff_row, hs, rFr_off]
    exact ⟨fun _ _ => mLay_lay, mLay_lay, rfl, Or.inr rfl⟩
  · rw [hb] at h; cases h
theorem pa_step {J1 K K2 : fM} {w mo tm : Int} {s : Int → Int} {b : Bool} (hs : J1 215 = s) (h : paI J1 w mo s tm b K) (hb : b = false) (h0 : 0 ≤ tm ∧ tm < 8) (hK2 : K2 = if sTF (rFr s w) mo (sLane tm) < 81 then mLay K w (sLane tm) (sTurn mo (sTF (rFr s w) mo (sLane tm))) else mOff K w) : paI J1 w mo s (tm + 1) (decide (sTF (rFr s w) mo (sLane tm) < 81)) K2 := by
  obtain ⟨h1, h2, -, -⟩ := pa_row hs h hb
  have hq : tm ≤ sLF (rFr s w) mo := by
    rcases h with ⟨-, h, -⟩ | ⟨h, -⟩
    · exact h
    · rw [hb] at h; cases h
  by_cases z : sTF (rFr s w) mo (sLane tm) < 81
  · have e := isF_hit (sLF_is (rFr s w) mo) h0.1 hq z
    rw [if_pos z, h1] at hK2
    exact Or.inr ⟨decide_eq_true z, by omega, by rw [e]; exact hK2⟩
  · rw [if_neg z, h2] at hK2
    exact Or.inl ⟨decide_eq_false z, isF_step (sLF_is (rFr s w) mo) hq h0.2 z, Or.inr hK2⟩
theorem pa_end {J1 K : fM} {w tm : Int} {s : Int → Int} {b : Bool} (hs : J1 215 = s) (h : paI J1 w (40 - s (13 + 19 * w + 6)) s tm b K) (he : 8 ≤ tm ∨ b = true) : K 215 = rPlace s w ∧ ∀ a : Nat, a ≠ 215 → K a = J1 a := by
  unfold rPlace
  rcases h with ⟨h1, h2, h3⟩ | ⟨h1, h2, h3⟩
  · have h4 : 8 ≤ tm := by
      rcases he with z | z
      · exact z
      · rw [h1] at z; cases z
    rw [if_neg (by omega)]
    rcases h3 with z | z
    · omega
    · rw [z]
      exact ⟨by rw [mOff_row, hs], fun a ha => mOff_o ha⟩
  · rw [if_pos h2, h3]
    exact ⟨by rw [mLay_row, hs], fun a ha => mLay_o ha⟩
