/-! PAIRS: how many words meet, before and after -/
noncomputable abbrev metR (s : Int → Int) (a b : Int) : Int := sMetM (s 2) (s 1) (fun i => s (3 + i)) (fun q => s (13 + 19 * a + q)) (fun q => s (13 + 19 * b + q))
theorem pairs_eq (s : Int → Int) : pairs s = sSum (fun a => sSum (fun b => if a < b ∧ metR s a b ≠ -19 then 1 else 0) (s 0)) (s 0) := rfl
theorem sCutM_c {n a : Int} {sh th : Int → Int} (h : ∀ i, 0 ≤ i → i < n → sh i = th i) : sCutM n sh a 0 = sCutM n th a 0 := by
  have e : sF (fun i => a < sh i) 0 n = sF (fun i => a < th i) 0 n := sF_c (fun i i0 i1 => by rw [h i i0 i1])
  unfold sCutM
  rw [e]
  by_cases z : sF (fun i => a < th i) 0 n < n
  · rw [if_pos z, if_pos z]
    refine h _ ?_ z
    rcases Int.lt_or_le n 0 with q | q
    · rw [sF_nil (by omega)]; exact Int.le_refl _
    · exact (sF_is q).1.1
  · rw [if_neg z, if_neg z]
theorem sRowM_c {pct f : Int} {r r2 : Int → Int} (h : ∀ b, 0 ≤ b → b ≤ 6 → r b = r2 b) : sRowM pct r f = sRowM pct r2 f := by
  unfold sRowM sMvW
  rw [h 0 (by decide) (by decide), h 1 (by decide) (by decide), h 2 (by decide) (by decide), h 3 (by decide) (by decide), h 4 (by decide) (by decide)]
theorem sColM_c {pct f : Int} {r r2 : Int → Int} (h : ∀ b, 0 ≤ b → b ≤ 6 → r b = r2 b) : sColM pct r f = sColM pct r2 f := by
  unfold sColM sMvW
  rw [h 0 (by decide) (by decide), h 1 (by decide) (by decide), h 2 (by decide) (by decide), h 3 (by decide) (by decide), h 5 (by decide) (by decide)]
theorem sOnB_c {pct n : Int} {sh th r r2 : Int → Int} (hs : ∀ i, 0 ≤ i → i < n → sh i = th i) (h : ∀ b, 0 ≤ b → b ≤ 6 → r b = r2 b) : sOnB pct n sh r = sOnB pct n th r2 := by
  funext f
  unfold sOnB
  refine decide_eq_decide.mpr ?_
  unfold sOnM
  rw [sRowM_c h, sColM_c h, sCutM_c hs, h 0 (by decide) (by decide), h 1 (by decide) (by decide), h 2 (by decide) (by decide), h 3 (by decide) (by decide), h 4 (by decide) (by decide), h 6 (by decide) (by decide)]
theorem sMAB_c {pct n : Int} {sh th r r2 q q2 : Int → Int} (hs : ∀ i, 0 ≤ i → i < n → sh i = th i) (h : ∀ b, 0 ≤ b → b ≤ 6 → r b = r2 b) (h2 : ∀ b, 0 ≤ b → b ≤ 6 → q b = q2 b) : sMAB pct n sh r q = sMAB pct n th r2 q2 := by
  funext f
  unfold sMAB
  refine decide_eq_decide.mpr ?_
  unfold sMeetAt
  rw [sOnB_c hs h, sOnB_c hs h2, sRowM_c h, sRowM_c h2, sColM_c h, sColM_c h2, h 6 (by decide) (by decide), h2 6 (by decide) (by decide)]
theorem sMetM_c {pct n : Int} {sh th r r2 q q2 : Int → Int} (hs : ∀ i, 0 ≤ i → i < n → sh i = th i) (h : ∀ b, 0 ≤ b → b ≤ 6 → r b = r2 b) (h2 : ∀ b, 0 ≤ b → b ≤ 6 → q b = q2 b) : sMetM pct n sh r q = sMetM pct n th r2 q2 := by
  unfold sMetM
  rw [sOnB_c hs h, sOnB_c hs h2, sMAB_c hs h h2, h 0 (by decide) (by decide), h2 0 (by decide) (by decide)]
theorem sMAB_s {pct n : Int} {sh r q : Int → Int} {f : Int} : sMAB pct n sh r q f = sMAB pct n sh q r f := by
  unfold sMAB
  refine decide_eq_decide.mpr ?_
  unfold sMeetAt
  constructor
  · rintro ⟨⟨a, b, c⟩, d⟩
    exact ⟨⟨b, a, c.symm⟩, by omega⟩
  · rintro ⟨⟨a, b, c⟩, d⟩
    exact ⟨⟨b, a, c.symm⟩, by omega⟩
theorem sMetM_s {pct n : Int} {sh r q : Int → Int} : sMetM pct n sh r q = sMetM pct n sh q r := by
  have eP : (fun f => ¬ (sOnB pct n sh r f = true ∧ sOnB pct n sh q f = true) ∨ sMAB pct n sh r q f = true) = (fun f => ¬ (sOnB pct n sh q f = true ∧ sOnB pct n sh r f = true) ∨ sMAB pct n sh q r f = true) := funext fun f => propext (by
    rw [sMAB_s (r := r), and_comm])
  have em : max (r 0) (q 0) = max (q 0) (r 0) := by omega
  unfold sMetM
  rw [eP, em]
  generalize sF (fun f => ¬ (sOnB pct n sh q f = true ∧ sOnB pct n sh r f = true) ∨ sMAB pct n sh q r f = true) (max (q 0) (r 0)) 4001 = F
  by_cases h : sOnB pct n sh r F = true ∧ sOnB pct n sh q F = true
  · rw [if_pos h, if_pos h.symm]
  · rw [if_neg h, if_neg (fun z => h z.symm)]
theorem sMetM_off {pct n : Int} {sh r q : Int → Int} (h : r 4 = -1) : sMetM pct n sh r q = -19 := by
  have e : ∀ f, sOnB pct n sh r f = false := fun f => decide_eq_false (fun z => z.1 h)
  unfold sMetM
  rw [if_neg (fun z => by have := z.1; rw [e] at this; cases this)]
theorem metR_s {s : Int → Int} {a b : Int} : metR s a b = metR s b a := sMetM_s
theorem metR_off {s : Int → Int} {a b : Int} (h : s (13 + 19 * a + 4) = -1) : metR s a b = -19 := sMetM_off h
theorem metR_c {s t : Int → Int} {a b : Int} (e1 : t 1 = s 1) (e2 : t 2 = s 2) (hs : ∀ i, 0 ≤ i → i < s 1 → t (3 + i) = s (3 + i)) (ha : ∀ q, 0 ≤ q → q ≤ 6 → t (13 + 19 * a + q) = s (13 + 19 * a + q)) (hb : ∀ q, 0 ≤ q → q ≤ 6 → t (13 + 19 * b + q) = s (13 + 19 * b + q)) : metR t a b = metR s a b := by
  unfold metR
  rw [e1, e2]
  exact sMetM_c hs ha hb
theorem pairs_c {s t : Int → Int} (h : mOkr s) (e : ∀ b, 0 ≤ b → b < 241 → t b = s b) : pairs t = pairs s := by
  have h0 := h.1.1
  have h1 := h.1.2.1
  rw [pairs_eq, pairs_eq, e 0 (by decide) (by decide)]
  refine sSum_c (fun a a0 a1 => sSum_c (fun b b0 b1 => ?_))
  rw [metR_c (s := s) (t := t) (e 1 (by decide) (by decide)) (e 2 (by decide) (by decide)) (fun i i0 i1 => e _ (by omega) (by omega)) (fun q q0 q1 => e _ (by omega) (by omega)) (fun q q0 q1 => e _ (by omega) (by omega))]
theorem pairs_n {s : Int → Int} (h : mOkr s) : pairs (nrm s) = pairs s := pairs_c h (fun b b0 b1 => nrm_i b0 b1)
theorem pairs_le {s t : Int → Int} {w : Int} (e0 : t 0 = s 0) (e1 : t 1 = s 1) (e2 : t 2 = s 2) (hs : ∀ i, 0 ≤ i → i < s 1 → t (3 + i) = s (3 + i)) (hr : ∀ v, 0 ≤ v → v < s 0 → v ≠ w → ∀ q, 0 ≤ q → q ≤ 6 → t (13 + 19 * v + q) = s (13 + 19 * v + q)) (hw : ∀ v, 0 ≤ v → v < s 0 → v ≠ w → metR t w v = -19) : pairs t ≤ pairs s := by
  rw [pairs_eq, pairs_eq, e0]
  refine sSum_le (fun a a0 a1 => sSum_le (fun b b0 b1 => ?_))
  by_cases c : a < b ∧ metR t a b ≠ -19
  · have na : a ≠ w := fun z => c.2 (by rw [z]; exact hw b b0 b1 (by omega))
    have nb : b ≠ w := fun z => c.2 (by rw [z, metR_s]; exact hw a a0 a1 na)
    have e : metR t a b = metR s a b := metR_c e1 e2 hs (hr a a0 a1 na) (hr b b0 b1 nb)
    rw [if_pos c, if_pos (by rw [← e]; exact c)]
    exact Int.le_refl _
  · rw [if_neg c]
    split <;> omega
theorem mMA_iff {s : Int → Int} {w : Int} : mMA s w = false ↔ ∀ i, 0 ≤ i → i < s 0 → i ≠ w → metR s w i = -19 := by
  constructor
  · intro h i i0 i1 hi
    refine Classical.byContradiction fun y => ?_
    by_cases z : s (13 + 19 * i + 4) = -1
    · exact y (by rw [metR_s]; exact metR_off z)
    · have := sMAny_t (c := fun i => i ≠ w ∧ s (13 + 19 * i + 4) ≠ -1 ∧ sMetM (s 2) (s 1) (fun i => s (3 + i)) (fun q => s (13 + 19 * w + q)) (fun q => s (13 + 19 * i + q)) ≠ -19) i0 i1 ⟨hi, z, y⟩
      unfold mMA at h
      rw [this] at h
      cases h
  · intro h
    exact sMAny_f (fun i i0 i1 z => z.2.2 (h i i0 i1 z.1))
theorem mMA_c {s t : Int → Int} {w : Int} (h0 : s 0 ≤ 12) (h1 : s 1 ≤ 10) (w0 : 0 ≤ w) (w1 : w < s 0) (e : ∀ b, 0 ≤ b → b < 241 → t b = s b) (h : mMA s w = false) : mMA t w = false := by
  rw [mMA_iff] at h ⊢
  intro i i0 i1 hi
  rw [e 0 (by decide) (by decide)] at i1
  rw [metR_c (s := s) (t := t) (e 1 (by decide) (by decide)) (e 2 (by decide) (by decide)) (fun i i0 i1 => e _ (by omega) (by omega)) (fun q q0 q1 => e _ (by omega) (by omega)) (fun q q0 q1 => e _ (by omega) (by omega))]
  exact h i i0 i1 hi
theorem off_le {s : Int → Int} {w : Int} (hv : mOkr s) (w0 : 0 ≤ w) (w1 : w < s 0) {t : Int → Int} (ht : ∀ b, (b < 13 + 19 * w ∨ 13 + 19 * w + 19 ≤ b) → t b = s b) (h4 : t (13 + 19 * w + 4) = -1) (hm : mOkr t) : pairs (nrm t) ≤ pairs s := by
  rw [pairs_n hm]
  have h1 := hv.1.2.1
  exact pairs_le (w := w) (ht 0 (by omega)) (ht 1 (by omega)) (ht 2 (by omega)) (fun i i0 i1 => ht _ (by omega)) (fun v v0 v1 hvw q q0 q1 => ht _ (by omega)) (fun v v0 v1 _ => metR_off h4)
theorem tak_le {s : Int → Int} {w : Int} (hv : mOkr s) (h : -11 < vTak s w) : pairs (tTak s w) ≤ pairs s := by
  unfold vTak at h
  by_cases z : 0 ≤ w ∧ w < s 0
  · exact off_le hv z.1 z.2 (fun b hb => rOff_o (by omega) (by omega)) rLay_4 (mOkr_off hv z.1)
  · rw [if_neg z] at h
    omega
theorem set_wv {s : Int → Int} {w what v : Int} (hv : mOkr s) (w0 : 0 ≤ w) (w1 : w < s 0) (hal : sAllowed what v = true) : mOkr (rOff (rsv s (13 + 19 * w + what) v) w) := by
  have al := sAl_b hal
  refine mOkr_row hv (w := w) (fun b hb => by unfold rOff; rw [rLay_o (by omega) (by omega), rsv_n (by omega)]) w0 (fun _ => ?_)
  obtain ⟨v1, v2, v3, v4, v5, v6, v7, v8⟩ := hv.2 w w0 w1
  dsimp only at v1 v2 v3 v4 v5 v6 v7 v8
  have ro : ∀ b : Int, b ≠ 13 + 19 * w + 4 → b ≠ 13 + 19 * w + 5 → b ≠ 13 + 19 * w + what → rOff (rsv s (13 + 19 * w + what) v) w b = s b := fun b h4 h5 h6 => by
    unfold rOff
    rw [rLay_o h4 h5, rsv_n h6]
  have rw_ : rOff (rsv s (13 + 19 * w + what) v) w (13 + 19 * w + what) = v := by
    unfold rOff
    rw [rLay_o (by omega) (by omega), rsv_s]
  have r4 : rOff (rsv s (13 + 19 * w + what) v) w (13 + 19 * w + 4) = -1 := rLay_4
  have r5 : rOff (rsv s (13 + 19 * w + what) v) w (13 + 19 * w + 5) = -1 := rLay_5
  unfold mWv
  (try dsimp only)
  rw [r4, r5, ro (13 + 19 * w + 6) (by omega) (by omega) (by omega)]
  rcases al with ⟨rfl, hb⟩ | ⟨rfl, hb⟩ | ⟨rfl, hb⟩ | ⟨rfl, hb⟩
  · rw [ro (13 + 19 * w + 1) (by omega) (by omega) (by omega), ro (13 + 19 * w + 2) (by omega) (by omega) (by omega), ro (13 + 19 * w + 3) (by omega) (by omega) (by omega), rw_]
    omega
  · rw [ro (13 + 19 * w + 0) (by omega) (by omega) (by omega), ro (13 + 19 * w + 2) (by omega) (by omega) (by omega), ro (13 + 19 * w + 3) (by omega) (by omega) (by omega), rw_]
    omega
  · rw [ro (13 + 19 * w + 0) (by omega) (by omega) (by omega), ro (13 + 19 * w + 1) (by omega) (by omega) (by omega), ro (13 + 19 * w + 3) (by omega) (by omega) (by omega), rw_]
    omega
  · rw [ro (13 + 19 * w + 0) (by omega) (by omega) (by omega), ro (13 + 19 * w + 1) (by omega) (by omega) (by omega), ro (13 + 19 * w + 2) (by omega) (by omega) (by omega), rw_]
    omega
theorem set_le {s : Int → Int} {w what v : Int} (hv : mOkr s) (h : -11 < vSet s w what v) : pairs (tSet s w what v) ≤ pairs s := by
  unfold vSet at h
  by_cases z : (0 ≤ w ∧ w < s 0) ∧ sAllowed what v = true
  · have al := sAl_b z.2
    exact off_le hv z.1.1 z.1.2 (fun b hb => by unfold rOff; rw [rLay_o (by omega) (by omega), rsv_n (by omega)]) rLay_4 (set_wv hv z.1.1 z.1.2 z.2)
  · rw [if_neg z] at h
    omega
theorem put_le {s : Int → Int} {w la co : Int} (hv : mOkr s) (h : -11 < vPut s w la co) : pairs (tPut s w la co) ≤ pairs s := by
  unfold vPut at h
  by_cases z : mPl (gh s) w la co
  · rw [if_pos z] at h
    by_cases y : mMA (rLay s w la co) w = false
    · have z1 : 0 ≤ w ∧ w < s 0 := z.1
      have z3 : 0 ≤ co ∧ co + s (13 + 19 * w + 6) ≤ 40 := z.2.2
      have hm : mOkr (rLay s w la co) := mOkr_lay hv z1.1 (Or.inr ⟨z.2.1, z3⟩)
      have ht : ∀ b, (b < 13 + 19 * w ∨ 13 + 19 * w + 19 ≤ b) → rLay s w la co b = s b := fun b hb => rLay_o (by omega) (by omega)
      have h1 := hv.1.2.1
      unfold tPut
      rw [pairs_n hm]
      refine pairs_le (w := w) (ht 0 (by omega)) (ht 1 (by omega)) (ht 2 (by omega)) (fun i i0 i1 => ht _ (by omega)) (fun v v0 v1 hvw q q0 q1 => ht _ (by omega)) (fun v v0 v1 hvw => ?_)
      exact mMA_iff.mp y v v0 (by rw [ht 0 (by omega)]; exact v1) hvw
    · rw [if_neg y] at h
      omega
  · rw [if_neg z] at h
    omega
theorem sSum_skip {g : Int → Int} {n w : Int} (hg : ∀ i, 0 ≤ i → i < n → 0 ≤ g i) (w0 : 0 ≤ w) (w1 : w < n) : sSum (fun i => g (if w ≤ i then i + 1 else i)) (n - 1) ≤ sSum g n := by
  have key : ∀ d : Nat, sSum (fun i => g (if w ≤ i then i + 1 else i)) (w + d) + g w = sSum g (w + d + 1) := by
    intro d
    induction d with
    | zero =>
      rw [show w + ((0 : Nat) : Int) = w by omega, sSum_s w0]
      congr 1
      exact sSum_c (fun i i0 i1 => by rw [if_neg (by omega)])
    | succ d ih =>
      rw [show w + ((d + 1 : Nat) : Int) = w + d + 1 by omega, sSum_s (by omega), sSum_s (n := w + d + 1) (by omega), if_pos (by omega)]
      omega
  have k := key (n - 1 - w).toNat
  rw [show w + (((n - 1 - w).toNat : Nat) : Int) = n - 1 by omega, show n - 1 + 1 = n by omega] at k
  have := hg w w0 w1
  omega
theorem rem_le {s : Int → Int} {w : Int} (hv : mOkr s) (h : -11 < vRem s w) : pairs (tRem s w) ≤ pairs s := by
  unfold vRem at h
  by_cases z : 0 ≤ w ∧ w < s 0
  · have h0 := hv.1.1
    have h1 := hv.1.2.1
    have lo : ∀ b : Int, 0 < b → b < 13 → rRem s w b = s b := fun b b0 b1 => by
      unfold rRem
      rw [if_neg (by omega), if_neg (by omega)]
    have e0 : rRem s w 0 = s 0 - 1 := by
      unfold rRem
      rw [if_neg (by omega), if_pos rfl]
    have row : ∀ v q : Int, 0 ≤ v → v < s 0 - 1 → 0 ≤ q → q < 19 → rRem s w (13 + 19 * v + q) = s (13 + 19 * (if w ≤ v then v + 1 else v) + q) := fun v q v0 v1 q0 q1 => by
      unfold rRem
      by_cases z : w ≤ v
      · rw [if_pos (by omega), if_pos z]
        congr 1
        omega
      · rw [if_neg (by omega), if_neg (by omega), if_neg z]
    have em : ∀ a b : Int, 0 ≤ a → a < s 0 - 1 → 0 ≤ b → b < s 0 - 1 → metR (nrm (rRem s w)) a b = metR s (if w ≤ a then a + 1 else a) (if w ≤ b then b + 1 else b) := fun a b a0 a1 b0 b1 => by
      unfold metR
      rw [nrm_i (by decide) (by decide), nrm_i (by decide) (by decide), lo 1 (by decide) (by decide), lo 2 (by decide) (by decide)]
      refine sMetM_c (fun i i0 i1 => ?_) (fun q q0 q1 => ?_) (fun q q0 q1 => ?_)
      · rw [nrm_i (by omega) (by omega), lo _ (by omega) (by omega)]
      · rw [nrm_i (by omega) (by omega), row a q a0 a1 q0 (by omega)]
      · rw [nrm_i (by omega) (by omega), row b q b0 b1 q0 (by omega)]
    have c0 : ∀ a b : Int, 0 ≤ (if a < b ∧ metR s a b ≠ -19 then 1 else 0 : Int) := fun a b => by split <;> omega
    unfold tRem
    rw [pairs_eq, pairs_eq, nrm_i (by decide) (by decide), e0]
    refine Int.le_trans (b := sSum (fun a => sSum (fun b => if (if w ≤ a then a + 1 else a) < b ∧ metR s (if w ≤ a then a + 1 else a) b ≠ -19 then 1 else 0) (s 0)) (s 0 - 1)) (sSum_le (fun a a0 a1 => ?_)) ?_
    · refine Int.le_trans (b := sSum (fun b => (fun b => if (if w ≤ a then a + 1 else a) < b ∧ metR s (if w ≤ a then a + 1 else a) b ≠ -19 then (1 : Int) else 0) (if w ≤ b then b + 1 else b)) (s 0 - 1)) (sSum_le (fun b b0 b1 => ?_)) (sSum_skip (fun i _ _ => c0 _ _) z.1 z.2)
      (try dsimp only)
      rw [em a b a0 a1 b0 b1]
      by_cases c : a < b ∧ metR s (if w ≤ a then a + 1 else a) (if w ≤ b then b + 1 else b) ≠ -19
      · rw [if_pos c, if_pos ⟨by (repeat' split) <;> omega, c.2⟩]
        exact Int.le_refl _
      · rw [if_neg c]
        exact c0 _ _
    · exact sSum_skip (g := fun a => sSum (fun b => if a < b ∧ metR s a b ≠ -19 then 1 else 0) (s 0)) (fun i _ _ => by
        refine Int.le_trans ?_ (sSum_le (g := fun _ => 0) (fun b _ _ => c0 i b))
        rw [sSum_z h0.1 (fun _ _ _ => rfl)]
        exact Int.le_refl _) z.1 z.2
  · rw [if_neg z] at h
    omega
/-- no two words meet -/
def noM (s : Int → Int) : Prop := ∀ a b, 0 ≤ a → a < s 0 → 0 ≤ b → b < s 0 → a ≠ b → metR s a b = -19
theorem noM_0 {s : Int → Int} (h0 : 0 ≤ s 0) (h : noM s) : pairs s = 0 := by
  rw [pairs_eq]
  exact sSum_z h0 (fun a a0 a1 => sSum_z h0 (fun b b0 b1 => if_neg (fun z => z.2 (h a b a0 a1 b0 b1 (by omega)))))
theorem noM_row {s t : Int → Int} {w : Int} (h : noM s) (h1 : s 1 ≤ 10) (w0 : 0 ≤ w) (ht : ∀ b, (b < 13 + 19 * w ∨ 13 + 19 * w + 19 ≤ b) → t b = s b) (hw : ∀ v, 0 ≤ v → v < t 0 → v ≠ w → metR t w v = -19) : noM t := by
  intro a b a0 a1 b0 b1 hab
  by_cases za : a = w
  · rw [za]; exact hw b b0 b1 (by omega)
  · by_cases zb : b = w
    · rw [zb, metR_s]; exact hw a a0 a1 za
    · rw [ht 0 (by omega)] at a1 b1
      rw [metR_c (s := s) (t := t) (ht 1 (by omega)) (ht 2 (by omega)) (fun i i0 i1 => ht _ (by omega)) (fun q q0 q1 => ht _ (by omega)) (fun q q0 q1 => ht _ (by omega))]
      exact h a b a0 a1 b0 b1 hab
theorem rOffN_4 {s : Int → Int} : ∀ n : Nat, ∀ w : Int, 0 ≤ w → w < n → rOffN s n (13 + 19 * w + 4) = -1 := by
  intro n
  induction n with
  | zero => intro w w0 w1; omega
  | succ n ih =>
    intro w w0 w1
    show rOff (rOffN s n) n (13 + 19 * w + 4) = -1
    by_cases z : w = n
    · rw [z]; exact rLay_4
    · rw [rOff_o (by omega) (by omega)]
      exact ih w w0 (by omega)
theorem place_noM {u : Int → Int} {x : Int} (hv : mOkr u) (h : noM u) (x0 : 0 ≤ x) : noM (rPlace u x) := by
  have h1 := hv.1.2.1.2
  unfold rPlace
  split
  · rename_i hl
    have h8 := (sLF_is (rFr u x) (40 - u (13 + 19 * x + 6))).2.2 hl
    have h9 := ((sTF_is (rFr u x) (40 - u (13 + 19 * x + 6)) (sLane (sLF (rFr u x) (40 - u (13 + 19 * x + 6))))).2.2 h8).2
    exact noM_row h h1 x0 (fun b hb => rLay_o (by omega) (by omega)) (fun v v0 v1 hvx => mMA_iff.mp h9 v v0 v1 hvx)
  · exact noM_row h h1 x0 (fun b hb => rOff_o (by omega) (by omega)) (fun v v0 v1 hvx => metR_off rLay_4)
theorem pal_0 {s : Int → Int} (hv : mOkr s) (ho : ∃ o : Int → Int, sOrd (fun w => s (13 + 19 * w + 6)) (fun w => s (13 + 19 * w + 0)) (s 0) o) : pairs (tPal s) = 0 := by
  obtain ⟨o, hO⟩ := ho
  have h0 := hv.1.1
  have hv2 := rOffN_ok hv (s 0).toNat
  have e0 : rOffN s (s 0).toNat 0 = s 0 := rOffN_o _ (fun w w0 w1 => by omega)
  have hoi : ∀ i : Int, 0 ≤ i → i < (s 0).toNat → 0 ≤ o i := fun i i0 i1 => (hO.1 i i0 (by omega)).1
  have hn : noM (rOffN s (s 0).toNat) := fun a b a0 a1 b0 b1 hab => metR_off (rOffN_4 _ a a0 (by omega))
  have key : ∀ n : Nat, n ≤ (s 0).toNat → noM (rPutN (rOffN s (s 0).toNat) o n) := by
    intro n
    induction n with
    | zero => intro _; exact hn
    | succ n ih =>
      intro hnn
      show noM (rPlace (rPutN (rOffN s (s 0).toNat) o n) (o n))
      exact place_noM (rPutN_ok hv2 hoi n (by omega)) (ih (by omega)) (hoi n (by omega) (by omega))
  have k := key (s 0).toNat (Nat.le_refl _)
  rw [rPal_o hO] at k
  have hm : mOkr (rPal s) := by rw [← rPal_o hO]; exact rPutN_ok hv2 hoi _ (Nat.le_refl _)
  unfold tPal
  rw [pairs_n hm]
  exact noM_0 hm.1.1.1 k
/-- a word that can come in a frame is set to it, and put -/
theorem ear_put {s : Int → Int} {w co : Int} (hv : mOkr s) (w0 : 0 ≤ w) (w1 : w < s 0) (c0 : 0 ≤ co) (c1 : co + s (13 + 19 * w + 6) ≤ 40) (he : 0 ≤ vEar s w 3 co) : 0 ≤ vSet s w 0 (vEar s w 3 co) ∧ 1 ≤ vPut (tSet s w 0 (vEar s w 3 co)) w 3 co := by
  have h0 := hv.1.1
  have h1 := hv.1.2.1
  obtain ⟨v1, v2, v3, v4, v5, v6, v7, v8⟩ := hv.2 w w0 w1
  dsimp only at v1 v2 v3 v4 v5 v6 v7 v8
  have hpl : mPl (gh s) w 3 co := ⟨⟨w0, w1⟩, ⟨by decide, by decide⟩, c0, c1⟩
  have hE : mEarF (gh s) w 3 co < 2001 ∧ vEar s w 3 co = mEarF (gh s) w 3 co := by
    unfold vEar qMEar at he ⊢
    rw [if_pos hpl] at he ⊢
    by_cases z : mEarF (gh s) w 3 co < 2001
    · exact ⟨z, if_pos z⟩
    · rw [if_neg z] at he
      omega
  have k : isF (fun f => mMA (rTry s w f 3 co) w = false) (s (13 + 19 * w + 0)) 2001 (mEarF (gh s) w 3 co) := sF_is (by omega)
  have k2 := k.2.2 hE.1
  have k1 := k.1.1
  rw [← hE.2] at k2 k1
  have hb := hE.1
  rw [← hE.2] at hb
  generalize vEar s w 3 co = e at he k1 k2 hb
  have hal : sAllowed 0 e = true := decide_eq_true (Or.inl ⟨rfl, by omega, by omega⟩)
  refine ⟨?_, ?_⟩
  · unfold vSet
    rw [if_pos ⟨⟨w0, w1⟩, hal⟩]
    exact v2.1
  · have ro : ∀ b : Int, 0 ≤ b → b < 241 → b ≠ 13 + 19 * w + 4 → b ≠ 13 + 19 * w + 5 → b ≠ 13 + 19 * w + 0 → tSet s w 0 e b = s b := fun b b0 b1 h4 h5 h6 => by
      unfold tSet
      rw [nrm_i b0 b1]
      unfold rOff
      rw [rLay_o h4 h5, rsv_n h6]
    have r0 : tSet s w 0 e (13 + 19 * w + 0) = e := by
      unfold tSet
      rw [nrm_i (by omega) (by omega)]
      unfold rOff
      rw [rLay_o (by omega) (by omega), rsv_s]
    have t0 : tSet s w 0 e 0 = s 0 := ro 0 (by decide) (by decide) (by omega) (by omega) (by omega)
    have hpl2 : mPl (gh (tSet s w 0 e)) w 3 co := by
      refine ⟨⟨w0, by show w < tSet s w 0 e 0; rw [t0]; exact w1⟩, ⟨by decide, by decide⟩, c0, ?_⟩
      show co + tSet s w 0 e (13 + 19 * w + 6) ≤ 40
      rw [ro _ (by omega) (by omega) (by omega) (by omega) (by omega)]
      exact c1
    have eq : ∀ b, 0 ≤ b → b < 241 → rLay (tSet s w 0 e) w 3 co b = rTry s w e 3 co b := fun b b0 b1 => by
      by_cases z4 : b = 13 + 19 * w + 4
      · rw [z4, rLay_4, try_4]
      · by_cases z5 : b = 13 + 19 * w + 5
        · rw [z5, rLay_5, try_5]
        · rw [rLay_o z4 z5]
          by_cases z0 : b = 13 + 19 * w + 0
          · rw [z0, r0, try_0]
          · rw [try_o z0 z4 z5, ro b b0 b1 z4 z5 z0]
    have hma : mMA (rLay (tSet s w 0 e) w 3 co) w = false := by
      have u0 : rTry s w e 3 co 0 = s 0 := try_o (by omega) (by omega) (by omega)
      have u1 : rTry s w e 3 co 1 = s 1 := try_o (by omega) (by omega) (by omega)
      exact mMA_c (by omega) (by omega) w0 (by omega) eq k2
    unfold vPut
    rw [if_pos hpl2, if_pos hma]
    refine mCnt_p w0 ?_ ?_
    · rw [rLay_o (by omega) (by omega), t0]; exact w1
    · rw [rLay_4]; decide
