/-! SPEC X3: rows of references, the history, what the class's writes leave -/
/-- row k's places from a up to n moved one to the front -/
def pShl (P : fN) (k : Nat) (a n : Int) : fN := fun x b => if x = k ∧ a ≤ b ∧ b < n then P k (b + 1) else P x b
theorem pShl_0 (P : fN) (k : Nat) (a : Int) : pShl P k a a = P := by
  funext x b
  unfold pShl
  rw [if_neg (by omega)]
theorem pShl_s {P : fN} {k : Nat} {a n : Int} (h : a ≤ n) : fuq (pShl P k a n) k n (pShl P k a n k (n + 1)) = pShl P k a (n + 1) := by
  have e : pShl P k a n k (n + 1) = P k (n + 1) := by unfold pShl; rw [if_neg (by omega)]
  rw [e]
  funext x b
  unfold fuq pShl
  by_cases h1 : x = k ∧ b = n
  · rw [if_pos h1, if_pos ⟨h1.1, by omega, by omega⟩, h1.2]
  · rw [if_neg h1]
    by_cases h2 : x = k ∧ a ≤ b ∧ b < n
    · rw [if_pos h2, if_pos ⟨h2.1, by omega, by omega⟩]
    · rw [if_neg h2, if_neg (fun z => by
        by_cases e2 : b = n
        · exact h1 ⟨z.1, e2⟩
        · exact h2 ⟨z.1, z.2.1, by omega⟩)]
/-- the place a goes to the place n, those behind it one to the front -/
def pRot (P : fN) (k : Nat) (a n : Int) : fN := fun x b => if x = k ∧ b = n then P k a else pShl P k a n x b
theorem pRot_e {P : fN} {k : Nat} {a n : Int} : fuq (pShl P k a n) k n (P k a) = pRot P k a n := rfl
theorem pRot_o {P : fN} {k x : Nat} {a n : Int} (h : x ≠ k) : pRot P k a n x = P x := by
  funext b
  unfold pRot pShl
  rw [if_neg (fun z => h z.1), if_neg (fun z => h z.1)]
def pRi (a n b : Int) : Int := if b = n then a else if a ≤ b ∧ b < n then b + 1 else b
theorem pRot_i {P : fN} {k : Nat} {a n b : Int} : pRot P k a n k b = P k (pRi a n b) := by
  unfold pRot pShl pRi
  by_cases h1 : b = n
  · rw [if_pos ⟨rfl, h1⟩, if_pos h1]
  · rw [if_neg (fun z => h1 z.2), if_neg h1]
    by_cases h2 : a ≤ b ∧ b < n
    · rw [if_pos ⟨rfl, h2⟩, if_pos h2]
    · rw [if_neg (fun z => h2 z.2), if_neg h2]
theorem pRi_inj {a n b c : Int} (h : a ≤ n) (e : pRi a n b = pRi a n c) : b = c := by
  unfold pRi at e
  (repeat' split at e) <;> omega
theorem pRi_b {a n b M : Int} (h0 : 0 ≤ a) (h1 : a ≤ n) (h2 : n < M) (h3 : 0 ≤ b) (h4 : b < M) : 0 ≤ pRi a n b ∧ pRi a n b < M := by
  unfold pRi
  (repeat' split) <;> omega
theorem fPs_rot {P : fN} {sc : Nat} {a n : Int} (h : fPs P sc) (h0 : 0 ≤ a) (h1 : a ≤ n) (h2 : n < 12) : fPs (pRot P (sc + 1) a n) sc := by
  refine ⟨fun w w0 w1 => ?_, fun v w v0 v1 w0 w1 e => ?_⟩
  · have b := pRi_b h0 h1 h2 w0 w1
    obtain ⟨j, hj, e⟩ := h.1 _ b.1 b.2
    exact ⟨j, hj, by rw [pRot_i]; exact e⟩
  · rw [pRot_i, pRot_i] at e
    have b1 := pRi_b h0 h1 h2 v0 v1
    have b2 := pRi_b h0 h1 h2 w0 w1
    exact pRi_inj h1 (h.2 _ _ b1.1 b1.2 b2.1 b2.2 e)
theorem fPs_eq {P P2 : fN} {sc : Nat} (h : fPs P sc) (e : P2 (sc + 1) = P (sc + 1)) : fPs P2 sc := by
  unfold fPs
  rw [e]
  exact h
/-- the history's row: five different scenes of its own -/
def fHs (P : fN) : Prop := (∀ w : Int, 0 ≤ w → w < 5 → ∃ j : Nat, j < 5 ∧ P 61 w = 62 + 30 * j) ∧ ∀ v w : Int, 0 ≤ v → v < 5 → 0 ≤ w → w < 5 → P 61 v = P 61 w → v = w
theorem fHs_rot {P : fN} (h : fHs P) : fHs (pRot P 61 0 4) := by
  refine ⟨fun w w0 w1 => ?_, fun v w v0 v1 w0 w1 e => ?_⟩
  · have b := pRi_b (a := 0) (n := 4) (M := 5) (by decide) (by decide) (by decide) w0 w1
    obtain ⟨j, hj, e⟩ := h.1 _ b.1 b.2
    exact ⟨j, hj, by rw [pRot_i]; exact e⟩
  · rw [pRot_i, pRot_i] at e
    have b1 := pRi_b (a := 0) (n := 4) (M := 5) (by decide) (by decide) (by decide) v0 v1
    have b2 := pRi_b (a := 0) (n := 4) (M := 5) (by decide) (by decide) (by decide) w0 w1
    exact pRi_inj (by decide) (h.2 _ _ b1.1 b1.2 b2.1 b2.2 e)
theorem fHs_s {P : fN} (h : fHs P) {w : Int} (h0 : 0 ≤ w) (h1 : w < 5) : fSc (P 61 w) := by
  obtain ⟨j, hj, e⟩ := h.1 w h0 h1
  rw [e]
  exact fSc_h hj
theorem fHs_b {P : fN} (h : fHs P) {w : Int} (h0 : 0 ≤ w) (h1 : w < 5) : 62 ≤ P 61 w ∧ P 61 w + 30 ≤ 212 := by
  obtain ⟨j, hj, e⟩ := h.1 w h0 h1
  omega
/-- every scene's row of words -/
def fPa (P : fN) : Prop := ∀ sc, fSc sc → fPs P sc
theorem fSc_n61 {sc : Nat} (h : fSc sc) : sc + 1 ≠ 61 := by
  rcases h with rfl | rfl | ⟨j, hj, rfl⟩ <;> omega
theorem fPa_61 {P : fN} {a n : Int} (h : fPa P) : fPa (pRot P 61 a n) := fun sc hs => fPs_eq (h sc hs) (pRot_o (fSc_n61 hs))
theorem fSc_n {sc sd : Nat} (h : fSc sc) (k : fSc sd) : sc ≠ sd → sc + 1 ≠ sd + 1 := fun z e => z (by omega)
theorem fPa_rot {P : fN} {sd : Nat} {a n : Int} (h : fPa P) (h0 : 0 ≤ a) (h1 : a ≤ n) (h2 : n < 12) : fPa (pRot P (sd + 1) a n) := by
  intro sc hs
  by_cases e : sc = sd
  · subst e
    exact fPs_rot (h sc hs) h0 h1 h2
  · exact fPs_eq (h sc hs) (pRot_o (by omega))
/-- a scene's state is one that can be -/
def sOk (I : fM) (P : fN) (sc : Nat) : Prop := fSv I sc ∧ (∀ w : Int, 0 ≤ w → w < I sc 1 → fWv I (P (sc + 1) w)) ∧ ∀ i j : Int, 0 ≤ i → i < j → j < I sc 3 → I (sc + 2) i ≠ I (sc + 2) j
/-- all of the class's state -/
def xAll (I : fM) (P : fN) : Prop := sOk I P 1 ∧ fPa P ∧ fHs P ∧ (∀ j : Int, 0 ≤ j → j < I 0 3 → sOk I P (P 61 j)) ∧ (0 ≤ I 0 3 ∧ I 0 3 ≤ 5) ∧ (0 ≤ I 212 1 ∧ I 212 1 ≤ 160)
theorem xAll_ok {I : fM} {P : fN} (h : xAll I P) : xOk I P := ⟨h.1.1, h.2.1 1 fSc_1, h.1.2.1, h.2.2.2.2.1, h.2.2.2.2.2⟩
theorem fWv_eq {I J : fM} {k d : Nat} (h : ∀ b : Int, 1 ≤ b → b ≤ 8 → J d b = I k b) (hw : fWv I k) : fWv J d := by
  unfold fWv at *
  rw [h 1 (by decide) (by decide), h 2 (by decide) (by decide), h 3 (by decide) (by decide), h 4 (by decide) (by decide), h 5 (by decide) (by decide), h 6 (by decide) (by decide), h 7 (by decide) (by decide), h 8 (by decide) (by decide)]
  exact hw
theorem fSv_eq {I J : fM} {sc sd : Nat} (h1 : J sd 1 = I sc 1) (h3 : J sd 3 = I sc 3) (h4 : J sd 4 = I sc 4) (hsh : ∀ i : Int, 0 ≤ i → i < I sc 3 → J (sd + 2) i = I (sc + 2) i) (h : fSv I sc) : fSv J sd := by
  obtain ⟨a, b, c, d⟩ := h
  refine ⟨by rw [h1]; exact a, by rw [h3]; exact b, by rw [h4]; exact c, fun i i0 i1 => ?_⟩
  rw [h3] at i1
  rw [hsh i i0 i1]
  exact d i i0 i1
theorem sOk_v {I J : fM} {P Q : fN} {sc sd : Nat} (h : sOk I P sc) (v : vEq I P sc J Q sd) : sOk J Q sd := by
  obtain ⟨⟨a, b, c, d⟩, w, k⟩ := h
  obtain ⟨v1, v3, v4, vs, vw⟩ := v
  refine ⟨fSv_eq v1 v3 v4 (fun i i0 i1 => vs i i0 (by omega)) ⟨a, b, c, d⟩, fun x x0 x1 => ?_, fun i j i0 i1 j1 => ?_⟩
  · rw [v1] at x1
    exact fWv_eq (vw x x0 x1).1 (w x x0 x1)
  · rw [v3] at j1
    rw [vs i i0 (by omega), vs j (by omega) (by omega)]
    exact k i j i0 i1 j1
/-- the history's row, its number of states, when the present scene is kept -/
def xRecP (I : fM) (P : fN) : fN := if I 0 3 = 5 then pRot P 61 0 4 else P
def xRecN (I : fM) : Int := if I 0 3 = 5 then 4 else I 0 3
/-- the present scene has been kept -/
def xRec (I : fM) (P : fN) (J : fM) (Q : fN) : Prop := Q = xRecP I P ∧ vEq I P 1 J Q (Q 61 (xRecN I)) ∧ J 0 3 = xRecN I + 1 ∧ (∀ b, b ≠ 3 → J 0 b = I 0 b) ∧ ∀ a : Nat, a ≠ 0 → (a < Q 61 (xRecN I) ∨ Q 61 (xRecN I) + 30 ≤ a) → J a = I a
/-- a new word of a scene -/
def xApp (I : fM) (P : fN) (sc : Nat) (le f sp he way : Int) : fM := fup (fup (fup (fup (fup (fup (fup (mLet I (P (sc + 1) (I sc 1) + 1) 0 le) (P (sc + 1) (I sc 1)) 1 le) (P (sc + 1) (I sc 1)) 2 f) (P (sc + 1) (I sc 1)) 3 sp) (P (sc + 1) (I sc 1)) 4 he) (P (sc + 1) (I sc 1)) 5 way) (P (sc + 1) (I sc 1)) 6 0) sc 1 (I sc 1 + 1)
theorem mLet_k {I : fM} {k a : Nat} {o n : Int} (h : a ≠ k) : mLet I k o n a = I a := by
  funext b
  unfold mLet
  rw [if_neg (fun z => h z.1)]
/-- the first n words of a scene are taken -/
noncomputable def xTake (I : fM) (P : fN) (sc : Nat) (n : Int) : fM := fun a b => @ite _ (b = 6 ∧ ∃ w, 0 ≤ w ∧ w < n ∧ a = P (sc + 1) w) (Classical.propDecidable _) 0 (I a b)
theorem xTake_0 (I : fM) (P : fN) (sc : Nat) : xTake I P sc 0 = I := by
  funext a b
  unfold xTake
  rw [if_neg]
  rintro ⟨-, w, h0, h1, -⟩
  omega
theorem xTake_s {I : fM} {P : fN} {sc : Nat} {n : Int} (h : 0 ≤ n) : fup (xTake I P sc n) (P (sc + 1) n) 6 0 = xTake I P sc (n + 1) := by
  funext a b
  unfold fup xTake
  by_cases h1 : a = P (sc + 1) n ∧ b = 6
  · rw [if_pos h1, if_pos ⟨h1.2, n, h, by omega, h1.1⟩]
  · rw [if_neg h1]
    by_cases h2 : b = 6 ∧ ∃ w, 0 ≤ w ∧ w < n ∧ a = P (sc + 1) w
    · rw [if_pos h2]
      obtain ⟨h3, w, w0, w1, e⟩ := h2
      rw [if_pos ⟨h3, w, w0, by omega, e⟩]
    · rw [if_neg h2, if_neg]
      rintro ⟨h3, w, w0, w1, e⟩
      by_cases q : w = n
      · rw [q] at e
        exact h1 ⟨e, h3⟩
      · exact h2 ⟨h3, w, w0, by omega, e⟩
theorem xTake_k {I : fM} {P : fN} {sc a : Nat} {n b : Int} (h : b ≠ 6) : xTake I P sc n a b = I a b := by
  unfold xTake
  rw [if_neg (fun z => h z.1)]
theorem xTake_o {I : fM} {P : fN} {sc a : Nat} {n b : Int} (h : ∀ w : Int, 0 ≤ w → w < n → a ≠ P (sc + 1) w) : xTake I P sc n a b = I a b := by
  unfold xTake
  rw [if_neg]
  rintro ⟨-, w, w0, w1, e⟩
  exact h w w0 w1 e
/-- a word tried in a frame, at a place -/
def xTR (r : Int → Int) (f la co : Int) : Int → Int := fun b => if b = 2 then f else if b = 6 then 1 else if b = 7 then la else if b = 8 then co else r b
def xTry (I : fM) (sc k : Nat) (f la co : Int) : fM := fup (fup (fup (fup (fcw I (sc + 3) k) (sc + 3) 2 f) (sc + 3) 6 1) (sc + 3) 7 la) (sc + 3) 8 co
theorem xTry_o {I : fM} {sc k a : Nat} {f la co : Int} (h : a ≠ sc + 3) (h2 : a ≠ sc + 4) : xTry I sc k f la co a = I a := by
  unfold xTry
  rw [fup_ne h, fup_ne h, fup_ne h, fup_ne h, fcw_o h (by omega)]
theorem xTry_t {I : fM} {sc k : Nat} {f la co : Int} : ∀ b : Int, 1 ≤ b → b ≤ 8 → xTry I sc k f la co (sc + 3) b = xTR (I k) f la co b := by
  intro b h1 h2
  unfold xTry xTR fup
  by_cases h8 : b = 8
  · subst h8; simp
  · by_cases h7 : b = 7
    · subst h7; simp
    · by_cases h6 : b = 6
      · subst h6; simp
      · by_cases h3 : b = 2
        · subst h3; simp
        · rw [if_neg (by omega), if_neg (by omega), if_neg (by omega), if_neg (by omega), if_neg h3, if_neg h6, if_neg h7, if_neg h8]
          unfold fcw
          rw [if_pos ⟨rfl, h1, h2⟩]
theorem sMeet_c {pct n : Int} {sh r r2 q : Int → Int} (h : ∀ b : Int, 1 ≤ b → b ≤ 8 → r b = r2 b) : sMeet pct n sh r q = sMeet pct n sh r2 q := by
  have e1 := h 1 (by decide) (by decide)
  have e2 := h 2 (by decide) (by decide)
  have e3 := h 3 (by decide) (by decide)
  have e4 := h 4 (by decide) (by decide)
  have e5 := h 5 (by decide) (by decide)
  have e6 := h 6 (by decide) (by decide)
  have e7 := h 7 (by decide) (by decide)
  have e8 := h 8 (by decide) (by decide)
  unfold sMeet sShare sGone sLeaveR sRowX sColX
  simp only [e1, e2, e3, e4, e5, e6, e7, e8]
/-- a word would meet no other one -/
def xFree (I : fM) (P : fN) (sc : Nat) (x f la co : Int) : Prop := ∀ i : Int, 0 ≤ i → i < I sc 1 → i ≠ x → sMeet (I sc 4) (I sc 3) (I (sc + 2)) (xTR (I (P (sc + 1) x)) f la co) (I (P (sc + 1) i)) = -19
noncomputable def xFreeB (I : fM) (P : fN) (sc : Nat) (x f la co : Int) : Bool := @decide (xFree I P sc x f la co) (Classical.propDecidable _)
theorem xFreeB_t {I : fM} {P : fN} {sc : Nat} {x f la co : Int} (h : xFree I P sc x f la co) : xFreeB I P sc x f la co = true := @decide_eq_true _ (Classical.propDecidable _) h
theorem xFreeB_f {I : fM} {P : fN} {sc : Nat} {x f la co : Int} (h : ¬ xFree I P sc x f la co) : xFreeB I P sc x f la co = false := @decide_eq_false _ (Classical.propDecidable _) h
theorem xFreeB_iff {I : fM} {P : fN} {sc : Nat} {x f la co : Int} : xFreeB I P sc x f la co = true ↔ xFree I P sc x f la co := @decide_eq_true_iff _ (Classical.propDecidable _)
theorem vEq_l {I M J : fM} {P P1 Q : fN} {sd : Nat} (h : ∀ a : Nat, a ≠ 0 → M a = I a) (h2 : P1 (1 + 1) = P (1 + 1)) (hp : fPs P 1) (hc : 0 ≤ I 1 1 ∧ I 1 1 ≤ 12) (v : vEq M P1 1 J Q sd) : vEq I P 1 J Q sd := by
  obtain ⟨v1, v3, v4, vs, vw⟩ := v
  have e1 := h 1 (by decide)
  have e3 := h (1 + 2) (by decide)
  rw [e1] at v1 v3 v4 vw
  rw [e3] at vs
  refine ⟨v1, v3, v4, vs, fun w w0 w1 => ?_⟩
  have k := vw w w0 w1
  obtain ⟨j, hj, e⟩ := hp.1 w w0 (by omega)
  rw [h2] at k
  unfold wEq at *
  rw [h (P (1 + 1) w) (by omega), h (P (1 + 1) w + 1) (by omega)] at k
  exact k
theorem vEq_r {I J J2 : fM} {P Q : fN} {sc sd : Nat} (h : ∀ a : Nat, a ≠ 0 → J2 a = J a) (h0 : sd ≠ 0) (hq : fPs Q sd) (hc : 0 ≤ I sc 1 ∧ I sc 1 ≤ 12) (v : vEq I P sc J Q sd) : vEq I P sc J2 Q sd := by
  obtain ⟨v1, v3, v4, vs, vw⟩ := v
  refine ⟨by rw [h sd h0]; exact v1, by rw [h sd h0]; exact v3, by rw [h sd h0]; exact v4, by rw [h (sd + 2) (by omega)]; exact vs, fun w w0 w1 => ?_⟩
  obtain ⟨j, hj, e⟩ := hq.1 w w0 (by omega)
  have k := vw w w0 w1
  unfold wEq at *
  rw [h (Q (sd + 1) w) (by omega), h (Q (sd + 1) w + 1) (by omega)]
  exact k
theorem ds_le {I : fM} {k1 k2 : Nat} {sp dp n : Int} (h : n ≤ 0) : I = fcpy I k1 sp k2 dp n := by
  funext a b
  unfold fcpy
  rw [if_neg (by omega)]
theorem ds_step {I : fM} {a : Nat} {q i k : Int} (h : (i ≤ q ∧ k = i) ∨ (q < i ∧ k = i - 1)) (hn : i ≠ q) : fup (fcpy I a (q + 1) a q (i - 1 - q)) a k (fcpy I a (q + 1) a q (i - 1 - q) a i) = fcpy I a (q + 1) a q (i + 1 - 1 - q) := by
  rcases h with ⟨h1, h2⟩ | ⟨h1, h2⟩
  · rw [← ds_le (by omega), ← ds_le (by omega), h2]
    exact fup_id rfl
  · have e := fcpy_s (I := I) (k1 := a) (sp := q + 1) (k2 := a) (dp := q) (n := i - 1 - q) (Or.inr (by omega)) (by omega)
    rw [show q + (i - 1 - q) = k by omega, show q + 1 + (i - 1 - q) = i by omega] at e
    rw [e, show i - 1 - q + 1 = i + 1 - 1 - q by omega]
theorem ds_skip {I : fM} {a : Nat} {q i : Int} (h : i = q) : fcpy I a (q + 1) a q (i - 1 - q) = fcpy I a (q + 1) a q (i + 1 - 1 - q) := by
  rw [← ds_le (by omega), ← ds_le (by omega)]
theorem xTR_wv {I J : fM} {d k : Nat} {f la co : Int} (h : ∀ b : Int, 1 ≤ b → b ≤ 8 → J d b = xTR (I k) f la co b) (hw : fWv I k) (hf : 0 ≤ f ∧ f ≤ 2000) (hla : 0 ≤ la ∧ la ≤ 7) (hco : 0 ≤ co ∧ co + I k 1 ≤ 40) : fWv J d := by
  obtain ⟨w1, w2, w3, w4, w5, w6, w7⟩ := hw
  have e1 : J d 1 = I k 1 := h 1 (by decide) (by decide)
  have e2 : J d 2 = f := h 2 (by decide) (by decide)
  have e3 : J d 3 = I k 3 := h 3 (by decide) (by decide)
  have e4 : J d 4 = I k 4 := h 4 (by decide) (by decide)
  have e5 : J d 5 = I k 5 := h 5 (by decide) (by decide)
  have e6 : J d 6 = 1 := h 6 (by decide) (by decide)
  have e7 : J d 7 = la := h 7 (by decide) (by decide)
  have e8 : J d 8 = co := h 8 (by decide) (by decide)
  unfold fWv
  rw [e1, e2, e3, e4, e5, e6, e7, e8]
  exact ⟨w1, hf, w3, w4, w5, Or.inr rfl, fun _ => ⟨hla, hco⟩⟩
