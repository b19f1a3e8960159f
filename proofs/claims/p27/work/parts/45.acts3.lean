/-! ACTS 3: words changed, put, taken; the text; undo; load -/
theorem sAl_b {what v : Int} (h : sAllowed what v = true) : (what = 0 ∧ 0 ≤ v ∧ v ≤ 2000) ∨ (what = 1 ∧ 1 ≤ v ∧ v ≤ 60) ∨ (what = 2 ∧ 0 ≤ v ∧ v ≤ 60) ∨ (what = 3 ∧ 0 ≤ v ∧ v ≤ 4) := of_decide_eq_true h
theorem cnt_row {I : fM} {P : fN} {s : Int → Int} (h : Rel I P 1 s) : xCnt I P = mCnt s := by
  unfold xCnt mCnt
  rw [h.1]
  refine sSum_c (fun i i0 i1 => ?_)
  have k := (Rel_pl h i0 i1).2.2.2.2.2
  dsimp only at k
  rw [show P 2 i = P (1 + 1) i from rfl]
  (repeat' split) <;> omega
/-- an action that changes one word -/
theorem upd_step {I M J K : fM} {P N : fN} {w : Int} {t : Int → Int} (S : Sim I P) (r : xRec I P M N) (w0 : 0 ≤ w) (w1 : w < I 215 0) (jo : ∀ a : Nat, a ≠ N 2 w → J a = M a) (ht : ∀ b : Int, (b < 13 + 19 * w ∨ 13 + 19 * w + 19 ≤ b) → t b = I 215 b) (kw : wRel (M (N 2 w)) (M (N 2 w + 1)) (fun q => I 215 (13 + 19 * w + q)) → wRel (J (N 2 w)) (M (N 2 w + 1)) (fun q => t (13 + 19 * w + q))) (mw : mWv (fun q => t (13 + 19 * w + q))) (kj : ∀ a : Nat, a ≠ 215 → K a = mAct J a) (kt : ∀ b : Int, 0 ≤ b → b < 241 → K 215 b = t b) : Sim K N ∧ RelK J N 1 t ∧ (∀ a : Nat, 214 ≤ a → J a = I a) := by
  obtain ⟨n1, n2, n3, n4, n5⟩ := rec_now S r
  have hp := n4 1 fSc_1
  have o := n1.2.1.1.1
  obtain ⟨j, hj, ej⟩ := hp.1 w w0 (by omega)
  have ej : N 2 w = 1 + 6 + 2 * j := ej
  have now : RelK J N 1 t := ⟨Rel_upd n1.1 n1.2.1 hp w0 w1 ht jo (kw (n1.1.2.2.2.2 w w0 w1)), mOkr_row n1.2.1 ht w0 (fun _ => mw), sDi_upd n1.2.2 n1.2.1.1.2.1.2 w0 ht⟩
  exact ⟨act_step S r (fun a ha => jo a (by omega)) (by rw [jo 0 (by omega)]) (fun _ _ => rfl) n4 kj t now kt, now, rec_ref S r (fun a ha => jo a (by omega))⟩
theorem st_set {I J : fM} {P Q : fN} {w what v : Int} (S : Sim I P) (h : xAct I P J Q ((0 ≤ w ∧ w < I 1 1) ∧ sAllowed what v = true) (fun M N => J = fup (fup M (N 2 w) (what + 2) v) (N 2 w) 6 0 ∧ Q = N)) : mOk J ∧ qXSet I P w what v = qMSet J w what v ∧ Sim (gMSet J w what v) Q := by
  have c0 : I 1 1 = I 215 0 := S.1.1.1
  have hq : qXSet I P w what v = qMSet I w what v := by
    unfold qXSet qMSet
    rw [c0]
    by_cases z : (0 ≤ w ∧ w < I 215 0) ∧ sAllowed what v = true
    · rw [if_pos z, if_pos z]
      have k := Rel_pl S.1.1 z.1.1 z.1.2
      obtain ⟨k1, k2, k3, k4, k5, k6⟩ := k
      dsimp only at k1 k2 k3 k4 k5 k6
      rcases sAl_b z.2 with ⟨rfl, -⟩ | ⟨rfl, -⟩ | ⟨rfl, -⟩ | ⟨rfl, -⟩
      · exact k2
      · exact k3
      · exact k4
      · exact k5
    · rw [if_neg z, if_neg z]
  by_cases ok : (0 ≤ w ∧ w < I 1 1) ∧ sAllowed what v = true
  · obtain ⟨M, N, r, hJ, hQ⟩ := xAct_yes h ok
    subst hQ
    have hv := S.1.2.1.2 w ok.1.1 (by omega)
    obtain ⟨v1, v2, v3, v4, v5, v6, v7, v8⟩ := hv
    dsimp only at v1 v2 v3 v4 v5 v6 v7 v8
    have al := sAl_b ok.2
    have ro : ∀ b : Int, b ≠ 13 + 19 * w + 4 → b ≠ 13 + 19 * w + 5 → b ≠ 13 + 19 * w + what → rOff (rsv (I 215) (13 + 19 * w + what) v) w b = I 215 b := fun b h4 h5 h6 => by
      unfold rOff
      rw [rLay_o h4 h5, rsv_n h6]
    have rw_ : rOff (rsv (I 215) (13 + 19 * w + what) v) w (13 + 19 * w + what) = v := by
      unfold rOff
      rw [rLay_o (by omega) (by omega), rsv_s]
    have r4 : rOff (rsv (I 215) (13 + 19 * w + what) v) w (13 + 19 * w + 4) = -1 := rLay_4
    have r5 : rOff (rsv (I 215) (13 + 19 * w + what) v) w (13 + 19 * w + 5) = -1 := rLay_5
    have res := upd_step (J := J) (K := gMSet J w what v) (t := rOff (rsv (I 215) (13 + 19 * w + what) v) w) S r ok.1.1 (by omega) (fun a ha => by rw [hJ, fup_ne ha, fup_ne ha]) (fun b hb => ro b (by omega) (by omega) (by omega)) ?_ ?_ ?_ ?_
    · refine ⟨mOk_of S (res.2.2 214 (by decide)) (res.2.2 215 (by decide)), ?_, res.1⟩
      rw [hq]
      unfold qMSet
      rw [res.2.2 215 (by decide)]
    · intro k
      obtain ⟨k1, k2, k3, k4, k5, k6, k7⟩ := k
      dsimp only at k1 k2 k3 k4 k5 k6 k7
      have j6 : J (Q 2 w) 6 = 0 := by rw [hJ, fup_s]
      have jw : J (Q 2 w) (what + 2) = v := by rw [hJ, fup_j (by omega), fup_s]
      have jn : ∀ b : Int, b ≠ 6 → b ≠ what + 2 → J (Q 2 w) b = M (Q 2 w) b := fun b h6 hb => by rw [hJ, fup_j h6, fup_j hb]
      unfold wRel
      dsimp only
      rw [r4, ro (13 + 19 * w + 6) (by omega) (by omega) (by omega)]
      have let_ : ∀ j : Int, 0 ≤ j → j < I 215 (13 + 19 * w + 6) → M (Q 2 w + 1) j = rOff (rsv (I 215) (13 + 19 * w + what) v) w (13 + 19 * w + (7 + j)) := fun j j0 j1 => by
        rw [ro _ (by omega) (by omega) (by omega)]
        exact k7 j j0 j1
      rcases al with ⟨rfl, -⟩ | ⟨rfl, -⟩ | ⟨rfl, -⟩ | ⟨rfl, -⟩
      · rw [ro (13 + 19 * w + 1) (by omega) (by omega) (by omega), ro (13 + 19 * w + 2) (by omega) (by omega) (by omega), ro (13 + 19 * w + 3) (by omega) (by omega) (by omega), rw_]
        exact ⟨(jn 1 (by decide) (by decide)).trans k1, jw, (jn 3 (by decide) (by decide)).trans k3, (jn 4 (by decide) (by decide)).trans k4, (jn 5 (by decide) (by decide)).trans k5, Or.inl ⟨j6, rfl⟩, let_⟩
      · rw [ro (13 + 19 * w + 0) (by omega) (by omega) (by omega), ro (13 + 19 * w + 2) (by omega) (by omega) (by omega), ro (13 + 19 * w + 3) (by omega) (by omega) (by omega), rw_]
        exact ⟨(jn 1 (by decide) (by decide)).trans k1, (jn 2 (by decide) (by decide)).trans k2, jw, (jn 4 (by decide) (by decide)).trans k4, (jn 5 (by decide) (by decide)).trans k5, Or.inl ⟨j6, rfl⟩, let_⟩
      · rw [ro (13 + 19 * w + 0) (by omega) (by omega) (by omega), ro (13 + 19 * w + 1) (by omega) (by omega) (by omega), ro (13 + 19 * w + 3) (by omega) (by omega) (by omega), rw_]
        exact ⟨(jn 1 (by decide) (by decide)).trans k1, (jn 2 (by decide) (by decide)).trans k2, (jn 3 (by decide) (by decide)).trans k3, jw, (jn 5 (by decide) (by decide)).trans k5, Or.inl ⟨j6, rfl⟩, let_⟩
      · rw [ro (13 + 19 * w + 0) (by omega) (by omega) (by omega), ro (13 + 19 * w + 1) (by omega) (by omega) (by omega), ro (13 + 19 * w + 2) (by omega) (by omega) (by omega), rw_]
        exact ⟨(jn 1 (by decide) (by decide)).trans k1, (jn 2 (by decide) (by decide)).trans k2, (jn 3 (by decide) (by decide)).trans k3, (jn 4 (by decide) (by decide)).trans k4, jw, Or.inl ⟨j6, rfl⟩, let_⟩
    · unfold mWv
      dsimp only
      rw [r4, r5, ro (13 + 19 * w + 6) (by omega) (by omega) (by omega)]
      rcases al with ⟨rfl, hb⟩ | ⟨rfl, hb⟩ | ⟨rfl, hb⟩ | ⟨rfl, hb⟩
      · rw [ro (13 + 19 * w + 1) (by omega) (by omega) (by omega), ro (13 + 19 * w + 2) (by omega) (by omega) (by omega), ro (13 + 19 * w + 3) (by omega) (by omega) (by omega), rw_]
        omega
      · rw [ro (13 + 19 * w + 0) (by omega) (by omega) (by omega), ro (13 + 19 * w + 2) (by omega) (by omega) (by omega), ro (13 + 19 * w + 3) (by omega) (by omega) (by omega), rw_]
        omega
      · rw [ro (13 + 19 * w + 0) (by omega) (by omega) (by omega), ro (13 + 19 * w + 1) (by omega) (by omega) (by omega), ro (13 + 19 * w + 3) (by omega) (by omega) (by omega), rw_]
        omega
      · rw [ro (13 + 19 * w + 0) (by omega) (by omega) (by omega), ro (13 + 19 * w + 1) (by omega) (by omega) (by omega), ro (13 + 19 * w + 2) (by omega) (by omega) (by omega), rw_]
        omega
    · intro a ha
      have jr : J 215 = I 215 := by
        obtain ⟨n1, n2, n3, n4, n5⟩ := rec_now S r
        obtain ⟨j, hj, ej⟩ := (n4 1 fSc_1).1 w ok.1.1 (by have := n1.2.1.1.1; omega)
        have ej : Q 2 w = 1 + 6 + 2 * j := ej
        rw [hJ, fup_ne (by omega), fup_ne (by omega)]
        exact n2 215 (by decide) (by decide)
      unfold gMSet
      rw [if_pos ⟨by rw [jr, ← c0]; exact ok.1, ok.2⟩, mOff_o ha, fup_ne ha]
    · intro b _ _
      have jr : J 215 = I 215 := by
        obtain ⟨n1, n2, n3, n4, n5⟩ := rec_now S r
        obtain ⟨j, hj, ej⟩ := (n4 1 fSc_1).1 w ok.1.1 (by have := n1.2.1.1.1; omega)
        have ej : Q 2 w = 1 + 6 + 2 * j := ej
        rw [hJ, fup_ne (by omega), fup_ne (by omega)]
        exact n2 215 (by decide) (by decide)
      unfold gMSet
      rw [if_pos ⟨by rw [jr, ← c0]; exact ok.1, ok.2⟩, mOff_row, fup_r, mAct_o (by decide) (by decide), jr]
  · obtain ⟨rfl, rfl⟩ := xAct_no h ok
    refine ⟨mOk_of S rfl rfl, hq, ?_⟩
    unfold gMSet
    rw [if_neg (by rw [← c0]; exact ok)]
    exact S
/-- a word's row with a place, without one -/
theorem wRel_lay {r r2 g : Int → Int} {s : Int → Int} {w la co : Int} (k : wRel r g (fun q => s (13 + 19 * w + q))) (h1 : ∀ b : Int, b ≠ 6 → b ≠ 7 → b ≠ 8 → r2 b = r b) (hp : (r2 6 = 0 ∧ la = -1) ∨ (r2 6 = 1 ∧ la ≠ -1 ∧ la = r2 7 ∧ co = r2 8)) (hl : s (13 + 19 * w + 6) ≤ 12) : wRel r2 g (fun q => rLay s w la co (13 + 19 * w + q)) := by
  obtain ⟨k1, k2, k3, k4, k5, k6, k7⟩ := k
  dsimp only at k1 k2 k3 k4 k5 k6 k7
  unfold wRel
  dsimp only
  rw [rLay_4, rLay_5, rLay_o (b := 13 + 19 * w + 6) (by omega) (by omega), rLay_o (b := 13 + 19 * w + 0) (by omega) (by omega), rLay_o (b := 13 + 19 * w + 1) (by omega) (by omega), rLay_o (b := 13 + 19 * w + 2) (by omega) (by omega), rLay_o (b := 13 + 19 * w + 3) (by omega) (by omega), h1 1 (by decide) (by decide) (by decide), h1 2 (by decide) (by decide) (by decide), h1 3 (by decide) (by decide) (by decide), h1 4 (by decide) (by decide) (by decide), h1 5 (by decide) (by decide) (by decide)]
  refine ⟨k1, k2, k3, k4, k5, hp, fun j j0 j1 => ?_⟩
  rw [rLay_o (b := 13 + 19 * w + (7 + j)) (by omega) (by omega)]
  exact k7 j j0 j1
theorem rec_215 {I M J : fM} {P N : fN} {w : Int} (S : Sim I P) (r : xRec I P M N) (w0 : 0 ≤ w) (w1 : w < I 215 0) (jo : ∀ a : Nat, a ≠ N 2 w → J a = M a) : J 215 = I 215 := by
  obtain ⟨n1, n2, n3, n4, n5⟩ := rec_now S r
  obtain ⟨j, hj, ej⟩ := (n4 1 fSc_1).1 w w0 (by have := n1.2.1.1.1; omega)
  have ej : N 2 w = 1 + 6 + 2 * j := ej
  rw [jo _ (by omega)]
  exact n2 215 (by decide) (by decide)
theorem st_take {I J : fM} {P Q : fN} {w : Int} (S : Sim I P) (h : xAct I P J Q ((0 ≤ w ∧ w < I 1 1) ∧ I (P 2 w) 6 = 1) (fun M N => J = fup M (N 2 w) 6 0 ∧ Q = N)) : mOk J ∧ (if 0 ≤ w ∧ w < I 1 1 then (if I (P 2 w) 6 = 1 then xCnt J Q else -12) else -11) = qMTake J w ∧ Sim (gMTake J w) Q := by
  have c0 : I 1 1 = I 215 0 := S.1.1.1
  by_cases ok : (0 ≤ w ∧ w < I 1 1) ∧ I (P 2 w) 6 = 1
  · obtain ⟨M, N, r, hJ, hQ⟩ := xAct_yes h ok
    subst hQ
    have w1 : w < I 215 0 := by omega
    have hv := S.1.2.1.2 w ok.1.1 w1
    have jo : ∀ a : Nat, a ≠ Q 2 w → J a = M a := fun a ha => by rw [hJ, fup_ne ha]
    have jr := rec_215 S r ok.1.1 w1 jo
    have h4 : I 215 (13 + 19 * w + 4) ≠ -1 := by
      have k6 := (Rel_pl S.1.1 ok.1.1 w1).2.2.2.2.2
      dsimp only at k6
      have ok2 : I (P (1 + 1) w) 6 = 1 := ok.2
      omega
    have g : gMTake J w = mOff (mAct J) w := by
      unfold gMTake
      rw [if_pos ⟨by rw [jr, ← c0]; exact ok.1, by rw [jr]; exact h4⟩]
    have res := upd_step (J := J) (K := gMTake J w) (t := rOff (I 215) w) S r ok.1.1 w1 jo (fun b hb => rLay_o (by omega) (by omega)) (fun k => wRel_lay k (fun b h6 _ _ => by rw [hJ, fup_j h6]) (Or.inl ⟨by rw [hJ, fup_s], rfl⟩) hv.1.2) (rLay_wv hv (Or.inl ⟨rfl, rfl⟩)) (fun a ha => by rw [g, mOff_o ha]) (fun b _ _ => by rw [g, mOff_row, mAct_o (by decide) (by decide), jr])
    refine ⟨mOk_of S (res.2.2 214 (by decide)) jr, ?_, res.1⟩
    have gr : mOff J w 215 = rOff (I 215) w := by rw [mOff_row, jr]
    rw [if_pos ok.1, if_pos ok.2]
    unfold qMTake
    rw [if_pos (by rw [jr, ← c0]; exact ok.1), if_neg (by rw [jr]; exact h4), gr]
    exact cnt_row res.2.1.1
  · obtain ⟨rfl, rfl⟩ := xAct_no h ok
    refine ⟨mOk_of S rfl rfl, ?_, ?_⟩
    · unfold qMTake
      rw [c0]
      by_cases z : 0 ≤ w ∧ w < J 215 0
      · have k6 := (Rel_pl S.1.1 z.1 z.2).2.2.2.2.2
        dsimp only at k6
        have hn : ¬ J (Q (1 + 1) w) 6 = 1 := fun y => ok ⟨by rw [c0]; exact z, y⟩
        rw [if_pos z, if_pos z, if_neg hn, if_pos (by omega)]
      · rw [if_neg z, if_neg z]
    · unfold gMTake
      rw [if_neg (fun z => ?_)]
      · exact S
      · have k6 := (Rel_pl S.1.1 z.1.1 z.1.2).2.2.2.2.2
        dsimp only at k6
        have hn : ¬ J (Q (1 + 1) w) 6 = 1 := fun y => ok ⟨by rw [c0]; exact z.1, y⟩
        have := z.2
        omega
/-- append, clearText -/
theorem st_app {I : fM} {P : fN} {x : Int} (S : Sim I P) : mOk (gXApp I x) ∧ qXApp I x = qMApp (gXApp I x) x ∧ Sim (gMApp (gXApp I x) x) P := by
  have S0 := S
  obtain ⟨s1, ⟨c1, c2⟩, hh, ⟨t1, t2, t3, t4⟩, p1, p2, p3⟩ := S
  obtain ⟨J, hJ⟩ : ∃ J, J = gXApp I x := ⟨_, rfl⟩
  have jo : ∀ a : Nat, a ≠ 212 → a ≠ 213 → J a = I a := fun a h1 h2 => by
    rw [hJ]
    unfold gXApp
    split
    · rw [fup_ne h1, fup_ne h2]
    · rfl
  have e4 := jo 214 (by decide) (by decide)
  have hq : qXApp I x = qMApp J x := by
    unfold qXApp qMApp
    rw [e4, t2]
  rw [← hJ]
  refine ⟨mOk_of S0 e4 (jo 215 (by decide) (by decide)), hq, ?_⟩
  by_cases ok : (1 ≤ x ∧ x ≤ 255) ∧ I 212 1 ≠ 160
  · have hJ2 : J = fup (fup I 213 (I 212 1) x) 212 1 (I 212 1 + 1) := by
      rw [hJ]
      unfold gXApp
      rw [if_pos ok]
    have hK : gMApp J x = fup (fup J 218 (I 214 6) x) 214 6 (I 214 6 + 1) := by
      unfold gMApp
      rw [e4, if_pos ⟨ok.1, by rw [← t2]; exact ok.2⟩]
    obtain ⟨K, hK2⟩ : ∃ K, K = gMApp J x := ⟨_, rfl⟩
    rw [← hK2]
    rw [hK] at hK2
    have ko : ∀ a : Nat, a ≠ 212 → a ≠ 213 → a ≠ 214 → a ≠ 218 → K a = I a := fun a h1 h2 h3 h4 => by rw [hK2, fup_ne h3, fup_ne h4, jo a h1 h2]
    have k13 : K 213 = rsv (I 213) (I 212 1) x := by rw [hK2, fup_ne (by decide), fup_ne (by decide), hJ2, fup_ne (by decide), fup_r]
    have k18 : K 218 = rsv (I 218) (I 214 6) x := by rw [hK2, fup_ne (by decide), fup_r, jo 218 (by decide) (by decide)]
    have k12 : K 212 1 = I 212 1 + 1 := by rw [hK2, fup_k (by decide), fup_k (by decide), hJ2, fup_s]
    have k14 : ∀ b : Int, b ≠ 6 → K 214 b = I 214 b := fun b hb => by rw [hK2, fup_j hb, fup_k (by decide), e4]
    have k6 : K 214 6 = I 214 6 + 1 := by rw [hK2, fup_s]
    refine ⟨?_, ⟨by rw [ko 0 (by decide) (by decide) (by decide) (by decide), k14 4 (by decide)]; exact c1, by rw [ko 0 (by decide) (by decide) (by decide) (by decide)]; exact c2⟩, fun h h0 h1 => ?_, ⟨by rw [k13, k18, t1, t2], by rw [k12, k6, t2], by rw [k12]; omega, fun i i0 i1 => ?_⟩, p1, p2, by rw [k14 0 (by decide)]; exact p3⟩
    · rw [ko 215 (by decide) (by decide) (by decide) (by decide)]
      exact RelK_eq (p1 1 fSc_1) rfl (ko 1 (by decide) (by decide) (by decide) (by decide)) (ko 3 (by decide) (by decide) (by decide) (by decide)) (fun a a0 a1 => ko a (by omega) (by omega) (by omega) (by omega)) s1
    · rw [ko 0 (by decide) (by decide) (by decide) (by decide)] at h1
      have b := fHs_b p2 h0 (by omega)
      have e : hRo K h = hRo I h := by
        funext q
        show K 217 _ = I 217 _
        rw [ko 217 (by decide) (by decide) (by decide) (by decide)]
      rw [e]
      exact RelK_eq (p1 _ (fHs_s p2 h0 (by omega))) rfl (ko _ (by omega) (by omega) (by omega) (by omega)) (ko _ (by omega) (by omega) (by omega) (by omega)) (fun a a0 a1 => ko a (by omega) (by omega) (by omega) (by omega)) (hh h h0 h1)
    · rw [k13]
      by_cases z : i = I 212 1
      · rw [z, rsv_s]; exact ok.1
      · rw [rsv_n z]
        rw [k12] at i1
        exact t4 i i0 (by omega)
  · have hJ2 : J = I := by
      rw [hJ]
      unfold gXApp
      rw [if_neg ok]
    have hK : gMApp J x = J := by
      unfold gMApp
      rw [e4, if_neg (by rw [← t2]; exact ok)]
    rw [hK, hJ2]
    exact S0
theorem st_clr {I : fM} {P : fN} (S : Sim I P) : mOk (fup I 212 1 0) ∧ I 212 1 = (fup I 212 1 0) 214 6 ∧ Sim (fup (fup I 212 1 0) 214 6 0) P := by
  have S0 := S
  obtain ⟨s1, ⟨c1, c2⟩, hh, ⟨t1, t2, t3, t4⟩, p1, p2, p3⟩ := S
  refine ⟨mOk_of S0 (fup_ne (by decide)) (fup_ne (by decide)), by rw [fup_k (by decide)]; exact t2, ?_⟩
  obtain ⟨K, hK⟩ : ∃ K, K = fup (fup I 212 1 0) 214 6 0 := ⟨_, rfl⟩
  rw [← hK]
  have ko : ∀ a : Nat, a ≠ 212 → a ≠ 214 → K a = I a := fun a h1 h2 => by rw [hK, fup_ne h2, fup_ne h1]
  have k14 : ∀ b : Int, b ≠ 6 → K 214 b = I 214 b := fun b hb => by rw [hK, fup_j hb, fup_k (by decide)]
  have k6 : K 214 6 = 0 := by rw [hK, fup_s]
  have k12 : K 212 1 = 0 := by rw [hK, fup_k (by decide), fup_s]
  refine ⟨?_, ⟨by rw [ko 0 (by decide) (by decide), k14 4 (by decide)]; exact c1, by rw [ko 0 (by decide) (by decide)]; exact c2⟩, fun h h0 h1 => ?_, ⟨by rw [ko 213 (by decide) (by decide), ko 218 (by decide) (by decide)]; exact t1, by rw [k12, k6], by rw [k12]; decide, fun i i0 i1 => by rw [k12] at i1; omega⟩, p1, p2, by rw [k14 0 (by decide)]; exact p3⟩
  · rw [ko 215 (by decide) (by decide)]
    exact RelK_eq (p1 1 fSc_1) rfl (ko 1 (by decide) (by decide)) (ko 3 (by decide) (by decide)) (fun a a0 a1 => ko a (by omega) (by omega)) s1
  · rw [ko 0 (by decide) (by decide)] at h1
    have b := fHs_b p2 h0 (by omega)
    have e : hRo K h = hRo I h := by
      funext q
      show K 217 _ = I 217 _
      rw [ko 217 (by decide) (by decide)]
    rw [e]
    exact RelK_eq (p1 _ (fHs_s p2 h0 (by omega))) rfl (ko _ (by omega) (by omega)) (ko _ (by omega) (by omega)) (fun a a0 a1 => ko a (by omega) (by omega)) (hh h h0 h1)
/-- undo -/
theorem st_undo {I J : fM} {P Q : fN} {v : Option Value} (S : Sim I P) (h : (1 ≤ I 0 3 ∧ v = some (.int (i32 (I 0 3 - 1))) ∧ vEq I P (P 61 (I 0 3 - 1)) J P 1 ∧ fOut (fup I 0 3 (I 0 3 - 1)) J 1 ∧ Q = P) ∨ (¬ 1 ≤ I 0 3 ∧ v = some (.int (i32 (-12))) ∧ J = I ∧ Q = P)) : mOk J ∧ v = some (.int (i32 (qMUndo J))) ∧ Sim (gMUndo J) Q := by
  have S0 := S
  obtain ⟨s1, ⟨c1, c2⟩, hh, ⟨t1, t2, t3, t4⟩, p1, p2, p3⟩ := S
  rcases h with ⟨h1, hv, hve, ho, rfl⟩ | ⟨h1, hv, rfl, rfl⟩
  · have jo : ∀ a : Nat, a ≠ 0 → (a < 1 ∨ 31 ≤ a) → J a = I a := fun a a0 ha => by rw [ho a (by omega), fup_ne a0]
    have j3 : J 0 3 = I 0 3 - 1 := by rw [ho 0 (by omega), fup_s]
    have e4 := jo 214 (by decide) (by omega)
    have e7 := jo 217 (by decide) (by omega)
    have k := hh (I 0 3 - 1) (by omega) (by omega)
    have hg : gMUndo J = fcpy (fup J 214 4 (I 0 3 - 1)) 217 (241 * (I 0 3 - 1)) 215 0 241 := by
      unfold gMUndo
      rw [e4, if_neg (by omega), c1]
    obtain ⟨K, hK⟩ : ∃ K, K = gMUndo J := ⟨_, rfl⟩
    refine ⟨mOk_of S0 e4 (jo 215 (by decide) (by omega)), ?_, ?_⟩
    · rw [hv]
      unfold qMUndo
      rw [e4, if_neg (by omega), c1]
    rw [← hK]
    rw [hg] at hK
    have ko : ∀ a : Nat, a ≠ 214 → a ≠ 215 → K a = J a := fun a h1 h2 => by rw [hK, fcpy_ne h2, fup_ne h1]
    have k14 : ∀ b : Int, b ≠ 4 → K 214 b = I 214 b := fun b hb => by rw [hK, fcpy_k (by decide), fup_j hb, e4]
    have k4 : K 214 4 = I 0 3 - 1 := by rw [hK, fcpy_k (by decide), fup_s]
    have k3 : K 0 3 = I 0 3 - 1 := by rw [ko 0 (by decide) (by decide)]; exact j3
    have k15 : ∀ b : Int, 0 ≤ b → b < 241 → K 215 b = hRo I (I 0 3 - 1) b := fun b b0 b1 => by
      rw [hK, fcpy_at (by omega), fup_k (by decide), e7]
      show I 217 _ = I 217 _
      congr 1
      omega
    refine ⟨?_, ⟨by rw [k3, k4], by rw [k3]; omega⟩, fun g g0 g1 => ?_, ⟨by rw [ko 213 (by decide) (by decide), ko 218 (by decide) (by decide), jo 213 (by decide) (by omega), jo 218 (by decide) (by omega)]; exact t1, by rw [ko 212 (by decide) (by decide), jo 212 (by decide) (by omega), k14 6 (by decide)]; exact t2, by rw [ko 212 (by decide) (by decide), jo 212 (by decide) (by omega)]; exact t3, by rw [ko 213 (by decide) (by decide), jo 213 (by decide) (by omega), ko 212 (by decide) (by decide), jo 212 (by decide) (by omega)]; exact t4⟩, p1, p2, by rw [k14 0 (by decide)]; exact p3⟩
    · have kJ : RelK J Q 1 (hRo I (I 0 3 - 1)) := ⟨Rel_v k.2.1 k.1 hve, k.2⟩
      exact RelK_row (RelK_eq (p1 1 fSc_1) rfl (ko 1 (by decide) (by decide)) (ko 3 (by decide) (by decide)) (fun a a0 a1 => ko a (by omega) (by omega)) kJ) k15
    · rw [k3] at g1
      have b := fHs_b p2 g0 (by omega)
      have ki : ∀ a : Nat, 62 ≤ a → a < 212 → K a = I a := fun a a0 a1 => (ko a (by omega) (by omega)).trans (jo a (by omega) (by omega))
      have e : hRo K g = hRo I g := by
        funext q
        show K 217 _ = I 217 _
        rw [ko 217 (by decide) (by decide), e7]
      rw [e]
      exact RelK_eq (p1 _ (fHs_s p2 g0 (by omega))) rfl (ki _ (by omega) (by omega)) (ki _ (by omega) (by omega)) (fun a a0 a1 => ki a (by omega) (by omega)) (hh g g0 (by omega))
  · have e0 : gMUndo J = J := by
      unfold gMUndo
      rw [if_pos (by omega)]
    refine ⟨mOk_of S0 rfl rfl, ?_, ?_⟩
    · rw [hv]
      unfold qMUndo
      rw [if_pos (by omega)]
    · rw [e0]
      exact S0
