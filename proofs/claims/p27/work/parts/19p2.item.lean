/-! ITEM0: items -/
theorem tNum_ge {T : Int → Int} {n e : Int} (he : e ≤ n) : -1 ≤ tNum T n e := by
  unfold tNum
  split
  · rename_i h
    have := (dval_mono (T := T) (a := tS T n e) (m := (tE T n e - tS T n e).toNat) (fun i hi => (tKd_2 (by rw [tE_run he (Or.inr h.1) (by omega) (by omega)]; exact h.1)).2.1) _ (Nat.le_refl _)).1
    omega
  · omega
theorem tClip_b {T : Int → Int} {n e : Int} (he : e ≤ n) : -1 ≤ tClip (tNum T n e) ∧ tClip (tNum T n e) ≤ 4000 := by
  have := tNum_ge (T := T) he
  unfold tClip
  split <;> omega
theorem pItem_p {T s : Int → Int} {n e p : Int} (he : 0 ≤ e ∧ e ≤ n) (h : pItem T n s e = .inl p) : 0 ≤ p ∧ p ≤ n := by
  have k0 := tS_b (T := T) he.2
  have g0 := tE_b (T := T) he.2
  have k1 := tS_b (T := T) g0.2.1
  have g1 := tE_b (T := T) g0.2.1
  have k2 := tS_b (T := T) g1.2.1
  have g2 := tE_b (T := T) g1.2.1
  have k3 := tS_b (T := T) g2.2.1
  have g3 := tE_b (T := T) g2.2.1
  have k4 := tS_b (T := T) g3.2.1
  have g4 := tE_b (T := T) g3.2.1
  have k5 := tS_b (T := T) g4.2.1
  have w := tWe_b (T := T) g4.2.1
  have kw := tS_b (T := T) w.2
  unfold pItem pWord pShot at h
  (repeat' split at h) <;> cases h <;> omega
theorem pLoad_s {T : Int → Int} {n : Int} {s : Int → Int} {e i : Int} (h : 0 ≤ i ∧ i ≤ 22) : pLoad T n (23 - i).toNat s e i = if tK T n e = 0 then (i, s) else match pItem T n s e with
    | .inl p => (-1000 - p, s)
    | .inr (.inl (a, l, f, sp, h, w, e2)) => pLoad T n (23 - (i + 1)).toNat (rWord T s a l f sp h w) e2 (i + 1)
    | .inr (.inr (f, e2)) => pLoad T n (23 - (i + 1)).toNat (rShot s f) e2 (i + 1) := by
  rw [show (23 - i).toNat = (23 - (i + 1)).toNat + 1 by omega]
  rfl
theorem Rel_v {I J : fM} {P Q : fN} {sc sd : Nat} {s : Int → Int} (hv : mOkr s) (h : Rel I P sc s) (v : vEq I P sc J Q sd) : Rel J Q sd s := by
  obtain ⟨r1, r2, r3, r4, r5⟩ := h
  obtain ⟨v1, v2, v3, v4, v5⟩ := v
  obtain ⟨⟨o1, o2, o3, o4⟩, o5⟩ := hv
  refine ⟨v1.trans r1, v2.trans r2, v3.trans r3, fun i i0 i1 => ?_, fun w w0 w1 => ?_⟩
  · rw [v4 i i0 (by omega)]
    exact r4 i i0 i1
  · obtain ⟨k1, k2⟩ := v5 w w0 (by omega)
    obtain ⟨q1, q2, q3, q4, q5, q6, q7⟩ := r5 w w0 w1
    have h6 := (o5 w w0 w1).1
    dsimp only at h6 q1 q2 q3 q4 q5 q6 q7
    unfold wRel
    dsimp only
    rw [k1 1 (by decide) (by decide), k1 2 (by decide) (by decide), k1 3 (by decide) (by decide), k1 4 (by decide) (by decide), k1 5 (by decide) (by decide), k1 6 (by decide) (by decide), k1 7 (by decide) (by decide), k1 8 (by decide) (by decide)]
    refine ⟨q1, q2, q3, q4, q5, q6, fun j j0 j1 => ?_⟩
    rw [k2 j j0 (by omega)]
    exact q7 j j0 j1
