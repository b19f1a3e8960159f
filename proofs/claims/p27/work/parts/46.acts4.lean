/-! ACTS 4: free places; put, earliest, putAll, load -/
theorem try_o {s : Int → Int} {w f la co b : Int} (h0 : b ≠ 13 + 19 * w + 0) (h4 : b ≠ 13 + 19 * w + 4) (h5 : b ≠ 13 + 19 * w + 5) : rTry s w f la co b = s b := by
  unfold rTry
  rw [rsv_n h0, rLay_o h4 h5]
theorem try_0 {s : Int → Int} {w f la co : Int} : rTry s w f la co (13 + 19 * w + 0) = f := by
  unfold rTry
  rw [rsv_s]
theorem try_4 {s : Int → Int} {w f la co : Int} : rTry s w f la co (13 + 19 * w + 4) = la := by
  unfold rTry
  rw [rsv_n (by omega), rLay_4]
theorem try_5 {s : Int → Int} {w f la co : Int} : rTry s w f la co (13 + 19 * w + 5) = co := by
  unfold rTry
  rw [rsv_n (by omega), rLay_5]
theorem meet_try {I : fM} {P : fN} {s : Int → Int} {w i f la co : Int} (hr : Rel I P 1 s) (hv : mOkr s) (w0 : 0 ≤ w) (w1 : w < s 0) (hla : 0 ≤ la ∧ la ≤ 7) (hco : 0 ≤ co ∧ co + s (13 + 19 * w + 6) ≤ 40) (hf : 0 ≤ f ∧ f ≤ 2000) (i0 : 0 ≤ i) (i1 : i < s 0) (hne : i ≠ w) : sMeet (I 1 4) (I 1 3) (I (1 + 2)) (xTR (I (P (1 + 1) w)) f la co) (I (P (1 + 1) i)) = sMetM (rTry s w f la co 2) (rTry s w f la co 1) (fun i => rTry s w f la co (3 + i)) (fun q => rTry s w f la co (13 + 19 * w + q)) (fun q => rTry s w f la co (13 + 19 * i + q)) := by
  have e2 : rTry s w f la co 2 = I 1 4 := by rw [try_o (by omega) (by omega) (by omega)]; exact hr.2.2.1.symm
  have e1 : rTry s w f la co 1 = I 1 3 := by rw [try_o (by omega) (by omega) (by omega)]; exact hr.2.1.symm
  rw [e2, e1]
  have kw := Rel_pl hr w0 w1
  have ki := Rel_pl hr i0 i1
  have vw := hv.2 w w0 w1
  have vi := hv.2 i i0 i1
  have nu := Rel_nu hr hv
  refine met_eq ?_ ?_ ?_ ?_ ⟨by rw [hr.2.2.1]; exact nu.1, by rw [hr.2.1]; exact nu.2.1, fun j j0 j1 => ?_⟩
  · obtain ⟨k1, k2, k3, k4, k5, k6⟩ := kw
    dsimp only at k1 k2 k3 k4 k5 k6
    unfold wPl
    dsimp only
    rw [try_o (b := 13 + 19 * w + 6) (by omega) (by omega) (by omega), try_0, try_o (b := 13 + 19 * w + 1) (by omega) (by omega) (by omega), try_o (b := 13 + 19 * w + 2) (by omega) (by omega) (by omega), try_o (b := 13 + 19 * w + 3) (by omega) (by omega) (by omega), try_4, try_5]
    exact ⟨k1, rfl, k3, k4, k5, Or.inr ⟨rfl, by omega, rfl, rfl⟩⟩
  · obtain ⟨v1, v2, v3, v4, v5, v6, v7, v8⟩ := vw
    dsimp only at v1 v2 v3 v4 v5 v6 v7 v8
    unfold mWv
    dsimp only
    rw [try_o (b := 13 + 19 * w + 6) (by omega) (by omega) (by omega), try_0, try_o (b := 13 + 19 * w + 1) (by omega) (by omega) (by omega), try_o (b := 13 + 19 * w + 2) (by omega) (by omega) (by omega), try_o (b := 13 + 19 * w + 3) (by omega) (by omega) (by omega), try_4, try_5]
    exact ⟨v1, hf, v3, v4, v5, by omega, by omega, fun _ => hco⟩
  · obtain ⟨k1, k2, k3, k4, k5, k6⟩ := ki
    dsimp only at k1 k2 k3 k4 k5 k6
    unfold wPl
    dsimp only
    rw [try_o (b := 13 + 19 * i + 6) (by omega) (by omega) (by omega), try_o (b := 13 + 19 * i + 0) (by omega) (by omega) (by omega), try_o (b := 13 + 19 * i + 1) (by omega) (by omega) (by omega), try_o (b := 13 + 19 * i + 2) (by omega) (by omega) (by omega), try_o (b := 13 + 19 * i + 3) (by omega) (by omega) (by omega), try_o (b := 13 + 19 * i + 4) (by omega) (by omega) (by omega), try_o (b := 13 + 19 * i + 5) (by omega) (by omega) (by omega)]
    exact ⟨k1, k2, k3, k4, k5, k6⟩
  · exact mWv_c (fun b b0 b1 => try_o (by omega) (by omega) (by omega)) vi
  · have z := nu.2.2 j j0 (by rw [← hr.2.1]; exact j1)
    dsimp only at z
    rw [hr.2.1] at j1
    have o2 := hv.1.2.1
    show I (1 + 2) j = rTry s w f la co (3 + j) ∧ 1 ≤ rTry s w f la co (3 + j) ∧ rTry s w f la co (3 + j) ≤ 3000
    rw [try_o (b := 3 + j) (by omega) (by omega) (by omega)]
    exact z
theorem free_iff {I : fM} {P : fN} {s : Int → Int} {w f la co : Int} (hr : Rel I P 1 s) (hv : mOkr s) (w0 : 0 ≤ w) (w1 : w < s 0) (hla : 0 ≤ la ∧ la ≤ 7) (hco : 0 ≤ co ∧ co + s (13 + 19 * w + 6) ≤ 40) (hf : 0 ≤ f ∧ f ≤ 2000) : xFree I P 1 w f la co ↔ mMA (rTry s w f la co) w = false := by
  have e0 : rTry s w f la co 0 = s 0 := try_o (by omega) (by omega) (by omega)
  unfold mMA
  rw [e0]
  constructor
  · intro h
    refine sMAny_f (fun i i0 i1 z => z.2.2 ?_)
    rw [← meet_try hr hv w0 w1 hla hco hf i0 i1 z.1]
    exact h i i0 (by rw [hr.1]; exact i1) z.1
  · intro h i i0 i1 hne
    rw [hr.1] at i1
    by_cases z : rTry s w f la co (13 + 19 * i + 4) = -1
    · have k6 := (Rel_pl hr i0 i1).2.2.2.2.2
      dsimp only at k6
      rw [try_o (by omega) (by omega) (by omega)] at z
      exact sMeet_no (fun y => by have := y.2; omega)
    · rw [meet_try hr hv w0 w1 hla hco hf i0 i1 hne]
      refine Classical.byContradiction fun y => ?_
      rw [sMAny_t (c := fun i => i ≠ w ∧ rTry s w f la co (13 + 19 * i + 4) ≠ -1 ∧ sMetM (rTry s w f la co 2) (rTry s w f la co 1) (fun i => rTry s w f la co (3 + i)) (fun q => rTry s w f la co (13 + 19 * w + q)) (fun q => rTry s w f la co (13 + 19 * i + q)) ≠ -19) i0 i1 ⟨hne, z, y⟩] at h
      cases h
theorem pl_iff {I J : fM} {P : fN} {w la co : Int} (S : Sim I P) (e5 : J 215 = I 215) : xPl I P w la co ↔ mPl J w la co := by
  show (0 ≤ w ∧ w < I 1 1) ∧ (0 ≤ la ∧ la ≤ 7) ∧ 0 ≤ co ∧ co + I (P 2 w) 1 ≤ 40 ↔ (0 ≤ w ∧ w < J 215 0) ∧ (0 ≤ la ∧ la ≤ 7) ∧ 0 ≤ co ∧ co + J 215 (13 + 19 * w + 6) ≤ 40
  rw [e5, S.1.1.1]
  constructor
  · rintro ⟨z1, z2, z3, z4⟩
    have k1 := (Rel_pl S.1.1 z1.1 z1.2).1
    dsimp only at k1
    have z4 : co + I (P (1 + 1) w) 1 ≤ 40 := z4
    exact ⟨z1, z2, z3, by omega⟩
  · rintro ⟨z1, z2, z3, z4⟩
    have k1 := (Rel_pl S.1.1 z1.1 z1.2).1
    dsimp only at k1
    have g : co + I (P (1 + 1) w) 1 ≤ 40 := by omega
    exact ⟨z1, z2, z3, g⟩
theorem free_put {I : fM} {P : fN} {w la co : Int} (S : Sim I P) (h : mPl I w la co) : xFree I P 1 w (I (P 2 w) 2) la co ↔ mMA (rLay (I 215) w la co) w = false := by
  have k2 := (Rel_pl S.1.1 h.1.1 h.1.2).2.1
  have v2 := (S.1.2.1.2 w h.1.1 h.1.2).2.1
  dsimp only at k2 v2
  have k2 : I (P 2 w) 2 = I 215 (13 + 19 * w + 0) := k2
  rw [k2, free_iff S.1.1 S.1.2.1 h.1.1 h.1.2 h.2.1 h.2.2 v2, rTry_0]
theorem st_put {I J : fM} {P Q : fN} {w la co : Int} {v : Option Value} (S : Sim I P) (h : (xPl I P w la co ∧ xFree I P 1 w (I (P 2 w) 2) la co ∧ v = some (.int (i32 (xCnt J Q))) ∧ ∃ I2 M N, tEq I I2 1 ∧ xRec I2 P M N ∧ J = xPutM M (N 2 w) la co ∧ Q = N) ∨ (xPl I P w la co ∧ ¬ xFree I P 1 w (I (P 2 w) 2) la co ∧ v = some (.int (i32 (-12))) ∧ tEq I J 1 ∧ Q = P) ∨ (¬ xPl I P w la co ∧ v = some (.int (i32 (-11))) ∧ J = I ∧ Q = P)) : mOk J ∧ ∀ (v2 : Option Value) (K : fM) (Q2 : fN), ((mPl J w la co ∧ mMA (rLay (J 215) w la co) w = false ∧ v2 = some (.int (i32 (mCnt (K 215)))) ∧ zEq (mLay (mAct J) w la co) K ∧ Q2 = Q) ∨ (mPl J w la co ∧ mMA (rLay (J 215) w la co) w = true ∧ v2 = some (.int (i32 (-12))) ∧ zEq J K ∧ Q2 = Q) ∨ (¬ mPl J w la co ∧ v2 = some (.int (i32 (-11))) ∧ K = J ∧ Q2 = Q)) → v = v2 ∧ Sim K Q2 := by
  rcases h with ⟨hpl, hfr, hv, I2, M, N, hI2, r, hJ, rfl⟩ | ⟨hpl, hfr, hv, hJ, rfl⟩ | ⟨hpl, hv, rfl, rfl⟩
  · have S2 := Sim_k S (kEq_t hI2) (rEq_t hI2)
    have e2 : I2 215 = I 215 := hI2 215 (by decide) (by decide)
    have hm := (pl_iff S (J := I) rfl).mp hpl
    have hfr2 := (free_put S hm).mp hfr
    have vv := S.1.2.1.2 w hm.1.1 hm.1.2
    have jo : ∀ a : Nat, a ≠ Q 2 w → J a = M a := fun a ha => by
      rw [hJ]
      unfold xPutM
      rw [fup_ne ha, fup_ne ha, fup_ne ha]
    have jr : J 215 = I 215 := (rec_215 S2 r hm.1.1 (by rw [e2]; exact hm.1.2) jo).trans e2
    have res := upd_step (J := J) (K := mLay (mAct J) w la co) (t := rLay (I 215) w la co) S2 r hm.1.1 (by rw [e2]; exact hm.1.2) jo (fun b hb => by rw [e2]; exact rLay_o (by omega) (by omega)) (fun k => by
      rw [e2] at k
      refine wRel_lay k (fun b h6 h7 h8 => ?_) (Or.inr ⟨?_, by have := hm.2.1; omega, ?_, ?_⟩) vv.1.2
      · rw [hJ]; unfold xPutM; rw [fup_j h8, fup_j h7, fup_j h6]
      · rw [hJ]; unfold xPutM; rw [fup_j (by decide), fup_j (by decide), fup_s]
      · rw [hJ]; unfold xPutM; rw [fup_j (by decide), fup_s]
      · rw [hJ]; unfold xPutM; rw [fup_s]) (rLay_wv vv (Or.inr ⟨hm.2.1, hm.2.2⟩)) (fun a ha => by rw [mLay_o ha]) (fun b _ _ => by rw [mLay_row, mAct_o (by decide) (by decide), jr])
    have j4 : J 214 = I 214 := (res.2.2 214 (by decide)).trans (hI2 214 (by decide) (by decide))
    refine ⟨mOk_of S j4 jr, fun v2 K Q2 hk => ?_⟩
    have hmJ := (pl_iff S jr).mp hpl
    rcases hk with ⟨-, -, hv2, hz, rfl⟩ | ⟨-, hno, -⟩ | ⟨hno, -⟩
    · refine ⟨?_, Sim_k res.1 (kEq_z hz) (rEq_z hz)⟩
      have ek : K 215 = rLay (I 215) w la co := by
        rw [hz 215 (by decide) (by decide), mLay_row, mAct_o (by decide) (by decide), jr]
      rw [hv, hv2, ek, cnt_row res.2.1.1]
    · rw [jr, hfr2] at hno
      cases hno
    · exact absurd hmJ hno
  · have jr : J 215 = I 215 := hJ 215 (by decide) (by decide)
    have SJ := Sim_k S (kEq_t hJ) (rEq_t hJ)
    have hm := (pl_iff S (J := I) rfl).mp hpl
    have hmJ := (pl_iff S jr).mp hpl
    refine ⟨mOk_of S (hJ 214 (by decide) (by decide)) jr, fun v2 K Q2 hk => ?_⟩
    rcases hk with ⟨-, hyes, -⟩ | ⟨-, -, hv2, hz, rfl⟩ | ⟨hno, -⟩
    · rw [jr] at hyes
      exact absurd ((free_put S hm).mpr hyes) hfr
    · exact ⟨by rw [hv, hv2], Sim_k SJ (kEq_z hz) (rEq_z hz)⟩
    · exact absurd hmJ hno
  · refine ⟨mOk_of S rfl rfl, fun v2 K Q2 hk => ?_⟩
    have hmJ : ¬ mPl J w la co := fun z => hpl ((pl_iff S rfl).mpr z)
    rcases hk with ⟨hy, -⟩ | ⟨hy, -⟩ | ⟨-, hv2, rfl, rfl⟩
    · exact absurd hy hmJ
    · exact absurd hy hmJ
    · exact ⟨by rw [hv, hv2], S⟩
theorem st_ear {I J : fM} {P Q : fN} {w la co : Int} {v : Option Value} (S : Sim I P) (h : v = some (.int (i32 (qXEar I P w la co))) ∧ tEq I J 1 ∧ Q = P) : mOk J ∧ ∀ (v2 : Option Value) (K : fM) (Q2 : fN), (v2 = some (.int (i32 (qMEar J w la co))) ∧ zEq J K ∧ Q2 = Q) → v = v2 ∧ Sim K Q2 := by
  obtain ⟨hv, hJ, rfl⟩ := h
  have jr : J 215 = I 215 := hJ 215 (by decide) (by decide)
  have SJ := Sim_k S (kEq_t hJ) (rEq_t hJ)
  refine ⟨mOk_of S (hJ 214 (by decide) (by decide)) jr, fun v2 K Q2 hk => ?_⟩
  obtain ⟨hv2, hz, rfl⟩ := hk
  refine ⟨?_, Sim_k SJ (kEq_z hz) (rEq_z hz)⟩
  rw [hv, hv2]
  have e : qXEar I Q2 w la co = qMEar J w la co := by
    unfold qXEar qMEar
    by_cases z : xPl I Q2 w la co
    · have hm := (pl_iff S (J := I) rfl).mp z
      rw [if_pos z, if_pos ((pl_iff S jr).mp z)]
      have k2 := (Rel_pl S.1.1 hm.1.1 hm.1.2).2.1
      have v2 := (S.1.2.1.2 w hm.1.1 hm.1.2).2.1
      dsimp only at k2 v2
      have k2 : I (Q2 2 w) 2 = I 215 (13 + 19 * w + 0) := k2
      have ef : xEarF I Q2 w la co = mEarF J w la co := by
        unfold xEarF mEarF
        rw [jr, k2]
        exact sF_c (fun f f0 f1 => free_iff S.1.1 S.1.2.1 hm.1.1 hm.1.2 hm.2.1 hm.2.2 (by omega))
      rw [ef]
    · rw [if_neg z, if_neg (fun y => z ((pl_iff S jr).mpr y))]
  rw [e]
/-- putAll -/
theorem sTF_c {fr gr : Int → Int → Prop} {last la : Int} (h : ∀ co, 0 ≤ co → co ≤ last → (fr la co ↔ gr la co)) : sTF fr last la = sTF gr last la := by
  unfold sTF
  exact sF_c (fun t _ _ => ⟨fun z => ⟨z.1, (h _ z.1.1 z.1.2).mp z.2⟩, fun z => ⟨z.1, (h _ z.1.1 z.1.2).mpr z.2⟩⟩)
theorem place_rel {X : fM} {N : fN} {s : Int → Int} {x : Int} (hr : Rel X N 1 s) (hv : mOkr s) (hp : fPs N 1) (x0 : 0 ≤ x) (x1 : x < s 0) (h6 : X (N 2 x) 6 = 0) : Rel (xPlace X N 1 x) N 1 (rPlace s x) := by
  have k := Rel_pl hr x0 x1
  have vx := hv.2 x x0 x1
  have k1 := k.1
  have k2 := k.2.1
  have v2 := vx.2.1
  dsimp only at k1 k2 v2
  have kr := hr.2.2.2.2 x x0 x1
  have fr : ∀ la, (0 ≤ la ∧ la ≤ 7) → ∀ co, 0 ≤ co → co ≤ 40 - s (13 + 19 * x + 6) → ((fun la co => xFree X N 1 x (X (N (1 + 1) x) 2) la co) la co ↔ rFr s x la co) := fun la hla co c0 c1 => by
    show xFree X N 1 x (X (N (1 + 1) x) 2) la co ↔ mMA (rLay s x la co) x = false
    rw [k2, free_iff hr hv x0 x1 hla ⟨c0, by omega⟩ v2, rTry_0]
  have eT : ∀ i, sTF (fun la co => xFree X N 1 x (X (N (1 + 1) x) 2) la co) (40 - s (13 + 19 * x + 6)) (sLane i) = sTF (rFr s x) (40 - s (13 + 19 * x + 6)) (sLane i) := fun i => sTF_c (fr (sLane i) (sLane_b i))
  have eL : sLF (fun la co => xFree X N 1 x (X (N (1 + 1) x) 2) la co) (40 - s (13 + 19 * x + 6)) = sLF (rFr s x) (40 - s (13 + 19 * x + 6)) := by
    unfold sLF
    exact sF_c (fun i _ _ => by rw [eT])
  unfold xPlace rPlace
  rw [k1, eL, eT]
  split
  · rename_i hl
    have h8 := (sLF_is (rFr s x) (40 - s (13 + 19 * x + 6))).2.2 hl
    have h9 := ((sTF_is (rFr s x) (40 - s (13 + 19 * x + 6)) (sLane (sLF (rFr s x) (40 - s (13 + 19 * x + 6))))).2.2 h8).1
    have hb := sLane_b (sLF (rFr s x) (40 - s (13 + 19 * x + 6)))
    refine Rel_upd hr hv hp x0 x1 (fun b hb => rLay_o (by omega) (by omega)) (fun a ha => by rw [fup_ne ha, fup_ne ha, fup_ne ha]) (wRel_lay kr (fun b h6 h7 h8 => by rw [fup_j h8, fup_j h7, fup_j h6]) (Or.inr ⟨?_, by omega, ?_, ?_⟩) vx.1.2)
    · rw [fup_j (by decide), fup_j (by decide), fup_s]
    · rw [fup_j (by decide), fup_s]
    · rw [fup_s]
  · exact Rel_upd hr hv hp x0 x1 (fun b hb => rLay_o (by omega) (by omega)) (fun a ha => rfl) (wRel_lay kr (fun b _ _ _ => rfl) (Or.inl ⟨h6, rfl⟩) vx.1.2)
theorem take_rel {M : fM} {N : fN} {s : Int → Int} (hr : Rel M N 1 s) (hv : mOkr s) (hp : fPs N 1) : ∀ n : Nat, (n : Int) ≤ s 0 → Rel (xTake M N 1 n) N 1 (rOffN s n) := by
  intro n
  induction n with
  | zero =>
    intro _
    rw [show ((0 : Nat) : Int) = 0 from rfl, xTake_0]
    exact hr
  | succ n ih =>
    intro hn
    have k := ih (by omega)
    have hv2 := rOffN_ok hv n
    have e0 : rOffN s n 0 = s 0 := rOffN_o n (fun w w0 w1 => by omega)
    rw [show ((n + 1 : Nat) : Int) = (n : Int) + 1 by omega, ← xTake_s (by omega)]
    show Rel _ N 1 (rOff (rOffN s n) n)
    exact Rel_upd k hv2 hp (w := (n : Int)) (by omega) (by omega) (fun b hb => rLay_o (by omega) (by omega)) (fun a ha => fup_ne ha) (wRel_lay (k.2.2.2.2 n (by omega) (by omega)) (fun b h6 _ _ => fup_j h6) (Or.inl ⟨by rw [fup_s], rfl⟩) (hv2.2 n (by omega) (by omega)).1.2)
theorem putN_rel {X : fM} {N : fN} {s o len fi : Int → Int} (hr : Rel X N 1 s) (hv : mOkr s) (hp : fPs N 1) (ho : sOrd len fi (s 0) o) (h6 : ∀ w : Int, 0 ≤ w → w < s 0 → X (N 2 w) 6 = 0) : ∀ n : Nat, (n : Int) ≤ s 0 → Rel (xPutN X N o n) N 1 (rPutN s o n) ∧ (∀ i : Int, n ≤ i → i < s 0 → xPutN X N o n (N 2 (o i)) 6 = 0) ∧ ∀ a : Nat, (a < 7 ∨ 31 ≤ a) → xPutN X N o n a = X a := by
  intro n
  induction n with
  | zero => exact fun _ => ⟨hr, fun i i0 i1 => h6 _ (ho.1 i i0 i1).1 (ho.1 i i0 i1).2, fun _ _ => rfl⟩
  | succ n ih =>
    intro hn
    obtain ⟨k1, k2, k3⟩ := ih (by omega)
    have hv2 := rPutN_ok (o := o) (m := n) hv (fun i i0 i1 => (ho.1 i i0 (by omega)).1) n (Nat.le_refl _)
    have e0 : rPutN s o n 0 = s 0 := rPutN_o (fun w => by omega) n
    have bo := ho.1 n (by omega) (by omega)
    have b12 := hv.1.1.2
    obtain ⟨j, hj, ej⟩ := hp.1 (o n) bo.1 (by omega)
    have ej : N 2 (o n) = 1 + 6 + 2 * j := ej
    refine ⟨?_, fun i i0 i1 => ?_, fun a ha => ?_⟩
    · show Rel (xPlace (xPutN X N o n) N 1 (o n)) N 1 (rPlace (rPutN s o n) (o n))
      exact place_rel k1 hv2 hp bo.1 (by omega) (k2 n (by omega) (by omega))
    · show xPlace (xPutN X N o n) N 1 (o n) (N 2 (o i)) 6 = 0
      have bi := ho.1 i (by omega) i1
      rw [xPlace_o (Or.inl (fun z => by
        have q := hp.2 (o i) (o n) bi.1 (by omega) bo.1 (by omega) z
        have := sOrd_inj ho (by omega) i1 (by omega) (by omega) q
        omega))]
      exact k2 i (by omega) i1
    · show xPlace (xPutN X N o n) N 1 (o n) a = X a
      rw [← k3 a ha]
      funext b
      exact xPlace_o (Or.inl (fun z => by
        have z : a = N 2 (o n) := z
        omega))
theorem st_pall {I J : fM} {P Q : fN} {v : Option Value} (S : Sim I P) (h : v = some (.int (i32 (xCnt J Q))) ∧ ∃ M N o, xRec I P M N ∧ sOrd (fun w => I (P 2 w) 1) (fun w => I (P 2 w) 2) (I 1 1) o ∧ xEq (xPutN (xTake M N 1 (I 1 1)) N o (I 1 1).toNat) J ∧ Q = N) : mOk J ∧ ∃ o : Int → Int, sOrd (fun w => J 215 (13 + 19 * w + 6)) (fun w => J 215 (13 + 19 * w + 0)) (J 215 0) o ∧ ∀ (v2 : Option Value) (K : fM) (Q2 : fN), (v2 = some (.int (i32 (mCnt (K 215)))) ∧ K 215 = rPutN (rOffN (J 215) (J 215 0).toNat) o (J 215 0).toNat ∧ (∀ a : Nat, a ≠ 215 → a ≠ 219 → K a = mAct J a) ∧ Q2 = Q) → v = v2 ∧ Sim K Q2 := by
  obtain ⟨hv, M, N, o, r, ho, hx, rfl⟩ := h
  obtain ⟨n1, n2, n3, n4, n5⟩ := rec_now S r
  have hp := n4 1 fSc_1
  have c0 : I 1 1 = I 215 0 := S.1.1.1
  rw [c0] at ho hx
  have b0 := n1.2.1.1.1
  have hO : sOrd (fun w => I 215 (13 + 19 * w + 6)) (fun w => I 215 (13 + 19 * w + 0)) (I 215 0) o := by
    refine sOrd_c (fun w w0 w1 => ?_) ho
    have k := Rel_pl S.1.1 w0 w1
    exact ⟨k.1, k.2.1⟩
  have tk := take_rel n1.1 n1.2.1 hp (I 215 0).toNat (by omega)
  rw [show (((I 215 0).toNat : Nat) : Int) = I 215 0 by omega] at tk
  have hv2 := rOffN_ok n1.2.1 (I 215 0).toNat
  have ro : ∀ b : Int, b < 13 → 0 ≤ b → rOffN (I 215) (I 215 0).toNat b = I 215 b := fun b b1 b2 => rOffN_o _ (fun w w0 w1 => by omega)
  have e0 : rOffN (I 215) (I 215 0).toNat 0 = I 215 0 := ro 0 (by decide) (by decide)
  have pn := putN_rel tk hv2 hp (o := o) (len := fun w => I 215 (13 + 19 * w + 6)) (fi := fun w => I 215 (13 + 19 * w + 0)) (by rw [e0]; exact hO) (fun w w0 w1 => by
    rw [e0] at w1
    unfold xTake
    exact @if_pos _ (Classical.propDecidable _) ⟨rfl, w, w0, w1, rfl⟩ _ _ _) (I 215 0).toNat (by omega)
  obtain ⟨t, ht⟩ : ∃ t, t = rPutN (rOffN (I 215) (I 215 0).toNat) o (I 215 0).toNat := ⟨_, rfl⟩
  have hv3 : mOkr t := by rw [ht]; exact rPutN_ok hv2 (fun i i0 i1 => (hO.1 i i0 (by omega)).1) _ (Nat.le_refl _)
  have to : ∀ b : Int, b < 13 → 0 ≤ b → t b = I 215 b := fun b b1 b2 => by
    rw [ht, rPutN_o (fun w => by omega)]
    exact ro b b1 b2
  have hd3 : sDi t := sDi_lo n1.2.2 (to 1 (by decide) (by decide)) (fun i i0 i1 => to _ (by have := n1.2.1.1.2.1; omega) (by omega))
  have xto : ∀ a : Nat, (a < 7 ∨ 31 ≤ a) → xTake M Q 1 (I 215 0) a = M a := fun a ha => by
    funext b
    refine xTake_o (fun w w0 w1 z => ?_)
    obtain ⟨j, hj, ej⟩ := hp.1 w w0 (by omega)
    omega
  have jm : ∀ a : Nat, (a = 0 ∨ 31 ≤ a) → J a = M a := fun a ha => by
    rw [hx a (by omega) (by omega) (by omega), pn.2.2 a (by omega), xto a (by omega)]
  have relJ : Rel J Q 1 t := by
    rw [ht]
    refine Rel_eq hp rfl ?_ (hx 1 (by decide) (by decide) (by decide)) (hx 3 (by decide) (by decide) (by decide)) (fun a a0 a1 => hx a (by omega) (by omega) (by omega)) pn.1
    rw [← ht]
    exact hv3.1.1.2
  have jr := rec_ref S r (fun a ha => jm a (by omega))
  have e5 := jr 215 (by decide)
  refine ⟨mOk_of S (jr 214 (by decide)) e5, o, by rw [e5]; exact hO, fun v2 K Q2 hk => ?_⟩
  obtain ⟨hv2', hK5, hKo, rfl⟩ := hk
  have ek : K 215 = t := by rw [hK5, e5, ht]
  refine ⟨by rw [hv, hv2', ek, cnt_row relJ], ?_⟩
  obtain ⟨K2, hK2⟩ : ∃ K2 : fM, K2 = fun a => if a = 219 then mAct J 219 else K a := ⟨_, rfl⟩
  have s2 : Sim K2 Q2 := act_step S r (fun a ha => jm a (by omega)) (by rw [jm 0 (by omega)]) (fun _ _ => rfl) n4 (fun a ha => by
    rw [hK2]
    by_cases z : a = 219
    · subst z; rfl
    · show (if a = 219 then mAct J 219 else K a) = _
      rw [if_neg z]
      exact hKo a ha z) t ⟨relJ, hv3, hd3⟩ (fun b _ _ => by rw [hK2]; show (if (215 : Nat) = 219 then mAct J 219 else K 215) b = _; rw [if_neg (by decide), ek])
  have kk : ∀ a : Nat, a ≠ 219 → K a = K2 a := fun a ha => by
    rw [hK2]
    show _ = (if a = 219 then mAct J 219 else K a)
    rw [if_neg ha]
  exact Sim_k s2 (kEq_of (fun a ha => kk a (by omega))) ⟨fun b _ => by rw [kk 214 (by decide)], fun b _ _ => by rw [kk 215 (by decide)], fun b _ _ => by rw [kk 217 (by decide)], kk 218 (by decide)⟩
/-- load -/
theorem st_load {I J : fM} {P Q : fN} {v : Option Value} (S : Sim I P) (h : v = some (.int (i32 (pLoad (I 213) (I 212 1) 23 (I 215) 0 0).1)) ∧ (((pLoad (I 213) (I 212 1) 23 (I 215) 0 0).1 < 0 ∧ oEq I J 31 ∧ Q = P) ∨ (0 ≤ (pLoad (I 213) (I 212 1) 23 (I 215) 0 0).1 ∧ ∃ I2 M, oEq I I2 31 ∧ xRec I2 P M Q ∧ Rel J Q 1 (pLoad (I 213) (I 212 1) 23 (I 215) 0 0).2 ∧ mOkr (pLoad (I 213) (I 212 1) 23 (I 215) 0 0).2 ∧ sDi (pLoad (I 213) (I 212 1) 23 (I 215) 0 0).2 ∧ J 212 1 = 0 ∧ (∀ a : Nat, a ≠ 212 → (a < 1 ∨ 31 ≤ a) → J a = M a) ∧ ∀ b : Int, b ≠ 1 → J 212 b = M 212 b))) : mOk J ∧ tOk (J 218) (J 214 6) ∧ ∀ (v2 : Option Value) (K : fM) (Q2 : fN), (Q2 = Q ∧ v2 = some (.int (i32 (pLoad (J 218) (J 214 6) 23 (J 215) 0 0).1)) ∧ (((pLoad (J 218) (J 214 6) 23 (J 215) 0 0).1 < 0 ∧ rdZ J K) ∨ (0 ≤ (pLoad (J 218) (J 214 6) 23 (J 215) 0 0).1 ∧ (∀ b : Int, 0 ≤ b → b < 241 → K 215 b = (pLoad (J 218) (J 214 6) 23 (J 215) 0 0).2 b) ∧ K 214 6 = 0 ∧ (∀ a : Nat, a ≠ 214 → a ≠ 215 → a ≠ 216 → a ≠ 219 → K a = mAct J a) ∧ ∀ b : Int, b ≠ 6 → (b < 7 ∨ 11 < b) → K 214 b = mAct J 214 b))) → v = v2 ∧ Sim K Q2 := by
  obtain ⟨hv, h⟩ := h
  obtain ⟨-, -, -, ⟨t1, t2, t3, t4⟩, -, -, p3⟩ := id S
  rcases h with ⟨hR, hJ, rfl⟩ | ⟨hR, I2, M, hI2, r, hr, hm, hd, hj1, hjo, hj2⟩
  · have jr : ∀ a : Nat, 213 ≤ a → J a = I a := fun a ha => hJ.1 a (by omega) (by omega)
    have e5 := jr 215 (by decide)
    have e4 := jr 214 (by decide)
    have e8 := jr 218 (by decide)
    have SJ := Sim_k S (kEq_d hJ) (rEq_d hJ)
    refine ⟨mOk_of S e4 e5, by rw [e8, e4, ← t1, ← t2]; exact t4, fun v2 K Q2 hk => ?_⟩
    rw [e8, e4, e5, ← t1, ← t2] at hk
    obtain ⟨rfl, hv2, hk⟩ := hk
    rcases hk with ⟨-, hz⟩ | ⟨hno, -⟩
    · exact ⟨by rw [hv, hv2], Sim_k SJ (kEq_rd hz) (rEq_rd hz)⟩
    · exact absurd hno (by omega)
  · have S2 := Sim_k S (kEq_d hI2) (rEq_d hI2)
    obtain ⟨n1, n2, n3, n4, n5⟩ := rec_now S2 r
    have jr2 : ∀ a : Nat, 213 ≤ a → J a = I2 a := fun a ha => (hjo a (by omega) (by omega)).trans (n2 a (by omega) (by omega))
    have jr : ∀ a : Nat, 213 ≤ a → J a = I a := fun a ha => (jr2 a ha).trans (hI2.1 a (by omega) (by omega))
    have e5 := jr 215 (by decide)
    have e4 := jr 214 (by decide)
    have e8 := jr 218 (by decide)
    refine ⟨mOk_of S e4 e5, by rw [e8, e4, ← t1, ← t2]; exact t4, fun v2 K Q2 hk => ?_⟩
    rw [e8, e4, e5, ← t1, ← t2] at hk
    obtain ⟨rfl, hv2, hk⟩ := hk
    rcases hk with ⟨hno, -⟩ | ⟨-, hk5, hk6, hko, hkf⟩
    · exact absurd hno (by omega)
    · refine ⟨by rw [hv, hv2], ?_⟩
      have kl : ∀ a : Nat, a < 214 → K a = J a := fun a ha => by rw [hko a (by omega) (by omega) (by omega) (by omega), mAct_o (by omega) (by omega)]
      have am := mAct_ref (I := I2) (J := J) (fun a ha => jr2 a (by omega))
      obtain ⟨hist1, hist2⟩ := act_hist (K := K) (Q := Q2) S2 r (fun a a0 a1 => (kl a (by omega)).trans (by
        by_cases z : a = 212
        · omega
        · exact hjo a z (by omega))) (by rw [kl 0 (by decide), hjo 0 (by decide) (by omega)]) rfl (fun _ _ => rfl) (by rw [hkf 4 (by decide) (by omega), am 214 (by decide)]) (fun b _ _ => by rw [hko 217 (by decide) (by decide) (by decide) (by decide), am 217 (by decide)])
      refine ⟨?_, hist1, hist2, ⟨?_, ?_, ?_, ?_⟩, n4, n5, ?_⟩
      · exact RelK_row (RelK_eq (n4 1 fSc_1) rfl (kl 1 (by decide)) (kl 3 (by decide)) (fun a a0 a1 => kl a (by omega)) ⟨hr, hm, hd⟩) hk5
      · rw [kl 213 (by decide), jr 213 (by decide), hko 218 (by decide) (by decide) (by decide) (by decide), mAct_o (by decide) (by decide), e8]
        exact t1
      · rw [kl 212 (by decide), hj1, hk6]
      · rw [kl 212 (by decide), hj1]; decide
      · intro i i0 i1
        rw [kl 212 (by decide), hj1] at i1
        omega
      · rw [hkf 0 (by decide) (by omega), mAct_4 (by decide), e4]
        exact p3
