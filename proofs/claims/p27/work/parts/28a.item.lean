/-! ITEM: what a token is in a memory; what the class's reading of an item leaves -/
abbrev tB (I : fM) (T : Int → Int) (n e : Int) : Prop := I 213 = T ∧ I 212 1 = n ∧ I 212 4 = e
abbrev tAt (I : fM) (T : Int → Int) (n e : Int) : Prop := I 213 = T ∧ I 212 1 = n ∧ I 212 2 = tK T n e ∧ I 212 3 = tS T n e ∧ I 212 4 = tE T n e
theorem tAt_st {I : fM} {T : Int → Int} {n e : Int} (h : tB I T n e) : tAt (tStep I) T n e ∧ tB (tStep I) T n (tE T n e) := by
  obtain ⟨h1, h2, h3⟩ := h
  obtain ⟨k2, k3, k4⟩ := tStep_2 (tOff_r I) h3
  rw [h1, h2] at k2 k3 k4
  have o := tStep_off (tOff_r I)
  have e1 : tStep I 213 = T := by rw [o.1 213 (by decide)]; exact h1
  have e2 : tStep I 212 1 = n := by rw [o.2 1 (by decide) (by decide) (by decide)]; exact h2
  exact ⟨⟨e1, e2, k2, k3, k4⟩, e1, e2, k4⟩
theorem mX1_stp (l : Launch) (Γ : fG) {N : Nat} (hN : 214 ≤ N) (I : fM) (P : fN) {T : Int → Int} {n e : Int} (hn : 0 ≤ n ∧ n ≤ 160) (hT : tOk T n) (he : 0 ≤ e ∧ e ≤ n) (h : tB I T n e) : fMet l yX1_step wsX1_step rmX1_step Γ N [.ref (Γ.1 212)] I P (fE none (tStep I) P) := by
  obtain ⟨h1, h2, h3⟩ := h
  exact mX1_step l Γ hN I P (by rw [h2]; exact hn) (by rw [h1, h2]; exact hT) (by rw [h2, h3]; exact he)
theorem mX1_num (l : Launch) (Γ : fG) {N : Nat} (hN : 214 ≤ N) (I : fM) (P : fN) {T : Int → Int} {n e : Int} (hn : 0 ≤ n ∧ n ≤ 160) (hT : tOk T n) (he : 0 ≤ e ∧ e ≤ n) (h : tAt I T n e) : fMet l yX1_numberOf wsX1_numberOf rmX1_numberOf Γ N [.ref (Γ.1 212)] I P (fE (some (.int (i32 (tClip (tNum T n e))))) I P) := by
  obtain ⟨h1, h2, k2, k3, k4⟩ := h
  have b1 := tS_b (T := T) he.2
  have b2 := tE_b (T := T) he.2
  have k := mX1_numberOf l Γ hN I P (by rw [h2]; exact hn) (by rw [h1, h2]; exact hT) (by rw [k2]; exact tK_b _ _ _) (by rw [k3, k4, h2]; omega) (fun j z j0 j1 => by rw [k2] at z; rw [k3] at j0; rw [k4] at j1; rw [h1]; have := tE_run he.2 (Or.inr z) j0 j1; rw [z] at this; exact (tKd_2 this).2) (fun z => by rw [k2] at z; rw [k3, k4]; exact b2.2.2 (by omega))
  rw [num_tok h1 k2 k3 k4] at k
  exact k
theorem mX1_nam (l : Launch) (Γ : fG) {N : Nat} (hN : 214 ≤ N) (I : fM) (P : fN) {T : Int → Int} {n e : Int} (hn : 0 ≤ n ∧ n ≤ 160) (hT : tOk T n) (he : 0 ≤ e ∧ e ≤ n) (h : tAt I T n e) (i : Nat) (hi : i < 6) : fMet l yX1_isName wsX1_isName rmX1_isName Γ N [.ref (Γ.1 212), .ref (Γ.2.2.2 (1 + i))] I P (fE (some (.int (i32 (fB (tNmB T n e i))))) I P) := by
  obtain ⟨h1, h2, k2, k3, k4⟩ := h
  have b1 := tS_b (T := T) he.2
  have b2 := tE_b (T := T) he.2
  have k := mX1_isName l Γ hN I P (by rw [h2]; exact hn) (by rw [h1, h2]; exact hT) (by rw [k2]; exact tK_b _ _ _) (by rw [k3, k4, h2]; omega) i hi
  rw [h1, k2, k3, k4] at k
  exact k
theorem tWe_1 {T : Int → Int} {n e : Int} (h : ¬ tWay T n e = 0) : tWe T n e = tE T n e := by
  unfold tWe
  rw [if_pos h]
theorem tWe_0 {T : Int → Int} {n e : Int} (h : tWay T n e = 0) : tWe T n e = e := by
  unfold tWe
  rw [if_neg (fun z => z h)]
theorem xApp_o {I : fM} {P : fN} {sc a : Nat} {l f sp he w : Int} (hs : fSc sc) (hp : fPs P sc) (hc : 0 ≤ I sc 1 ∧ I sc 1 < 12) (h : a < sc ∨ sc + 30 ≤ a) : xApp I P sc l f sp he w a = I a := by
  obtain ⟨j, hj, e⟩ := hp.1 (I sc 1) hc.1 hc.2
  unfold xApp
  rw [fup_ne (by omega), fup_ne (by omega), fup_ne (by omega), fup_ne (by omega), fup_ne (by omega), fup_ne (by omega), fup_ne (by omega), mLet_k (by omega)]
theorem xIns_o {I : fM} {sc a : Nat} {f : Int} (h : a < sc ∨ sc + 30 ≤ a) : xIns I sc f a = I a := by
  unfold xIns
  rw [fup_ne (by omega)]
  funext b
  unfold fIns
  rw [if_neg (by omega), if_neg (by omega)]
/-- nothing but a scene and the present token has changed -/
def oEq (I J : fM) (sc : Nat) : Prop := (∀ a : Nat, a ≠ 212 → (a < sc ∨ sc + 30 ≤ a) → J a = I a) ∧ ∀ b : Int, b ≠ 2 → b ≠ 3 → b ≠ 4 → J 212 b = I 212 b
theorem oEq_r (I : fM) (sc : Nat) : oEq I I sc := ⟨fun _ _ _ => rfl, fun _ _ _ _ => rfl⟩
theorem oEq_tr {I J K : fM} {sc : Nat} (h : oEq I J sc) (k : oEq J K sc) : oEq I K sc := ⟨fun a h1 h2 => (k.1 a h1 h2).trans (h.1 a h1 h2), fun b h2 h3 h4 => (k.2 b h2 h3 h4).trans (h.2 b h2 h3 h4)⟩
theorem oEq_t {I J : fM} {sc : Nat} (h : tOff I J) : oEq I J sc := ⟨fun a h1 _ => h.1 a h1, h.2⟩
theorem Rel_off {I J : fM} {P : fN} {sc : Nat} {s : Int → Int} (hs : fSc sc) (hp : fPs P sc) (hv : mOkr s) (h : tOff I J) (k : Rel I P sc s) : Rel J P sc s := by
  obtain ⟨hs0, -⟩ := fSc_k hs
  exact Rel_eq hp rfl hv.1.1.2 (h.1 sc (by omega)) (h.1 (sc + 2) (by omega)) (fun a h1 h2 => h.1 a (by omega)) k
theorem Rel_wrd {I : fM} {P : fN} {sc : Nat} {s : Int → Int} {a l f sp h w : Int} (hr : Rel I P sc s) (hv : mOkr s) (hs : fSc sc) (hp : fPs P sc) (hl : 1 ≤ l ∧ l ≤ 12) (h12 : s 0 < 12) : Rel (xWrd I P sc a l f sp h w) P sc (rWord (I 213) s a l f sp h w) := by
  obtain ⟨hs0, -⟩ := fSc_k hs
  have h0 := hv.1.1.1
  have r1 : I sc 1 = s 0 := hr.1
  obtain ⟨j, hj, e⟩ := hp.1 (s 0) h0 h12
  have ex2 : ∀ (a9 : Int) (a : Nat), a ≠ P (sc + 1) (s 0) → a ≠ P (sc + 1) (s 0) + 1 → ∀ b : Int, ¬ (a = sc ∧ b = 1) → xWrd I P sc a9 l f sp h w a b = I a b := fun a9 a h1 h2 b h3 => by
    unfold xWrd xApp
    rw [r1, fcpy_k h2]
    by_cases z : a = sc
    · subst z
      rw [fup_j (fun y => h3 ⟨rfl, y⟩), fup_k h1, fup_k h1, fup_k h1, fup_k h1, fup_k h1, fup_k h1, mLet_k h2]
    · rw [fup_k z, fup_k h1, fup_k h1, fup_k h1, fup_k h1, fup_k h1, fup_k h1, mLet_k h2]
  have ne1 : P (sc + 1) (s 0) ≠ P (sc + 1) (s 0) + 1 := by omega
  have fld : ∀ b : Int, xWrd I P sc a l f sp h w (P (sc + 1) (s 0)) b = fup (fup (fup (fup (fup (fup I (P (sc + 1) (s 0)) 1 l) (P (sc + 1) (s 0)) 2 f) (P (sc + 1) (s 0)) 3 sp) (P (sc + 1) (s 0)) 4 h) (P (sc + 1) (s 0)) 5 w) (P (sc + 1) (s 0)) 6 0 (P (sc + 1) (s 0)) b := fun b => by
    unfold xWrd xApp
    rw [r1, fcpy_k ne1, fup_k (by omega)]
    unfold fup
    rw [mLet_k ne1]
  refine Rel_new hr hv hp hl h12 ?_ (ex2 a sc (by omega) (by omega) 3 (by omega)) (ex2 a sc (by omega) (by omega) 4 (by omega)) ?_ (fun v v0 v1 => ?_) ?_ ?_ ?_ ?_ ?_ ?_ (fun q q0 q1 => ?_)
  · unfold xWrd xApp
    rw [r1, fcpy_k (by omega), fup_s]
  · funext b
    exact ex2 a (sc + 2) (by omega) (by omega) b (by omega)
  · obtain ⟨j2, hj2, e2⟩ := hp.1 v v0 (by omega)
    have hne : P (sc + 1) v ≠ P (sc + 1) (s 0) := fun z => by
      have := hp.2 v (s 0) v0 (by omega) h0 h12 z
      omega
    exact ⟨funext fun b => ex2 a _ hne (by omega) b (by omega), funext fun b => ex2 a _ (by omega) (by omega) b (by omega)⟩
  · rw [fld, fup_j (by decide), fup_j (by decide), fup_j (by decide), fup_j (by decide), fup_j (by decide), fup_s]
  · rw [fld, fup_j (by decide), fup_j (by decide), fup_j (by decide), fup_j (by decide), fup_s]
  · rw [fld, fup_j (by decide), fup_j (by decide), fup_j (by decide), fup_s]
  · rw [fld, fup_j (by decide), fup_j (by decide), fup_s]
  · rw [fld, fup_j (by decide), fup_s]
  · rw [fld, fup_s]
  · unfold xWrd
    rw [r1, fcpy_at (by omega)]
    unfold xApp
    rw [r1, fup_k (by omega), fup_k (by omega), fup_k (by omega), fup_k (by omega), fup_k (by omega), fup_k (by omega), fup_k (by omega), mLet_k (by omega)]
    congr 1
    omega
/-- an item's reading, as the loop over the items needs it -/
theorem it_use {I J : fM} {P : fN} {sc : Nat} {s T : Int → Int} {n e : Int} {v : Option Value} (hs : fSc sc) (hp : fPs P sc) (hr : Rel I P sc s) (hv : mOkr s) (hd : sDi s) (hb : I 213 = T) (hn : I 212 1 = n) (h : itP I P sc (pItem T n s e) v J) :
    ∃ b : Bool, v = some (.int (i32 (fB b))) ∧ (b = false → ∃ p, pItem T n s e = .inl p ∧ J 212 3 = p ∧ tOff I J) ∧
      (b = true → ∃ s2 e2, (∀ (k : Nat) (i : Int), (match pItem T n s e with
        | .inl p => ((-1000 - p, s) : Int × (Int → Int))
        | .inr (.inl (a, l, f, sp, h, w, e2)) => pLoad T n k (rWord T s a l f sp h w) e2 (i + 1)
        | .inr (.inr (f, e2)) => pLoad T n k (rShot s f) e2 (i + 1)) = pLoad T n k s2 e2 (i + 1)) ∧ Rel J P sc s2 ∧ mOkr s2 ∧ sDi s2 ∧ s2 0 + s2 1 = s 0 + s 1 + 1 ∧ J 212 4 = e2 ∧ (0 ≤ e2 ∧ e2 ≤ n) ∧ oEq I J sc) := by
  obtain ⟨hs0, -⟩ := fSc_k hs
  have h12 : ∀ x, pItem T n s e = .inr (.inl x) → s 0 < 12 := fun x hx => by
    unfold pItem at hx
    split at hx
    · rename_i z; exact z.2
    · split at hx
      · unfold pShot at hx
        (repeat' split at hx) <;> cases hx
      · cases hx
  have h10 : ∀ x, pItem T n s e = .inr (.inr x) → s 1 < 10 ∧ ¬ hasS s x.1 := fun x hx => by
    unfold pItem at hx
    split at hx
    · unfold pWord at hx
      (repeat' split at hx) <;> cases hx
    · split at hx
      · rename_i z
        refine ⟨z.2, ?_⟩
        unfold pShot at hx
        split at hx
        · rename_i z3
          split at hx
          · cases hx
            intro z2
            rw [hasSB_iff.mpr z2] at z3
            cases z3.2
          · cases hx
        · cases hx
      · cases hx
  cases hi : pItem T n s e with
  | inl p =>
    rw [hi] at h
    obtain ⟨h1, h2, h3⟩ := h
    exact ⟨false, h1, fun _ => ⟨p, rfl, h3, h2⟩, fun z => by cases z⟩
  | inr r =>
    cases r with
    | inl x =>
      obtain ⟨a, l, f, sp, hh, w, e2⟩ := x
      have hlt := h12 _ hi
      rw [hi] at h
      obtain ⟨h1, h2, h3, h4, h5, h6, h7, h8, h9, h10, h11⟩ := h
      refine ⟨true, h1, (fun z => by cases z), fun _ => ⟨rWord T s a l f sp hh w, e2, fun k i => rfl, ?_, mOkr_word hv hlt h4 h5 h6 h7 h8, sDi_word hd hv h4.1, ?_, h3, ⟨h10, by omega⟩, ?_⟩⟩
      · have k := Rel_wrd (a := a) (f := f) (sp := sp) (h := hh) (w := w) hr hv hs hp h4 hlt
        rw [hb] at k
        exact Rel_off hs hp (mOkr_word hv hlt h4 h5 h6 h7 h8) h2 k
      · have h0 := hv.1.1.1
        unfold rWord
        rw [if_neg (by omega), if_pos rfl, if_neg (by omega), if_neg (by omega), if_neg (by omega), if_neg (by omega), if_neg (by omega), if_neg (by omega), if_neg (by omega), if_neg (by omega), if_neg (by omega)]
        omega
      · have r1 : I sc 1 = s 0 := hr.1
        have h0 := hv.1.1.1
        obtain ⟨j, hj, ej⟩ := hp.1 (s 0) h0 hlt
        have ex : ∀ a9 : Nat, (a9 < sc ∨ sc + 30 ≤ a9) → xWrd I P sc a l f sp hh w a9 = I a9 := fun a9 ha => by
          unfold xWrd
          rw [r1, fcpy_ne (by omega)]
          exact xApp_o hs hp (by omega) ha
        exact ⟨fun a9 n9 ha => by rw [h2.1 a9 n9, ex a9 ha], fun b b2 b3 b4 => by rw [h2.2 b b2 b3 b4, ex 212 (by omega)]⟩
    | inr x =>
      obtain ⟨f, e2⟩ := x
      have hlt := h10 _ hi
      rw [hi] at h
      obtain ⟨h1, h2, h3, h4, h5, h6⟩ := h
      refine ⟨true, h1, (fun z => by cases z), fun _ => ⟨rShot s f, e2, fun k i => rfl, ?_, mOkr_shot hv hlt.1 h4, sDi_shot hd hv.1.2.1.1 hlt.2, ?_, h3, ⟨h5, by omega⟩, ?_⟩⟩
      · exact Rel_off hs hp (mOkr_shot hv hlt.1 h4) h2 (Rel_shot hr hv hs hp hlt.1)
      · rw [rShot_1, rShot_o (by omega) (by decide) hv.1.2.1.1]
        omega
      · exact ⟨fun a9 n9 ha => by rw [h2.1 a9 n9, xIns_o ha], fun b b2 b3 b4 => by rw [h2.2 b b2 b3 b4, xIns_o (by omega)]⟩
theorem it_v {I J : fM} {P : fN} {sc : Nat} {r : PI} {v : Option Value} (h : itP I P sc r v J) : ∃ b : Bool, v = some (.int (i32 (fB b))) := by
  cases r with
  | inl p => exact ⟨false, h.1⟩
  | inr r =>
    cases r with
    | inl x =>
      obtain ⟨a, l, f, sp, hh, w, e2⟩ := x
      exact ⟨true, h.1⟩
    | inr x =>
      obtain ⟨f, e2⟩ := x
      exact ⟨true, h.1⟩
theorem tAt_b {I : fM} {T : Int → Int} {n e : Int} (he : 0 ≤ e ∧ e ≤ n) (h : tAt I T n e) : tB I T n (tE T n e) ∧ (0 ≤ tE T n e ∧ tE T n e ≤ n) := by
  have k0 := tS_b (T := T) he.2
  have g0 := tE_b (T := T) he.2
  exact ⟨⟨h.1, h.2.1, h.2.2.2.2⟩, by omega, by omega⟩
