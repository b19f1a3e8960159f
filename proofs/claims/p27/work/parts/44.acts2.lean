/-! ACTS 2: the smaller actions -/
theorem wRel_c {r g q t : Int → Int} (h : ∀ b : Int, 0 ≤ b → b < 19 → t b = q b) (hl : q 6 ≤ 12) (k : wRel r g q) : wRel r g t := by
  obtain ⟨q1, q2, q3, q4, q5, q6, q7⟩ := k
  unfold wRel
  rw [h 6 (by decide) (by decide), h 0 (by decide) (by decide), h 1 (by decide) (by decide), h 2 (by decide) (by decide), h 3 (by decide) (by decide), h 4 (by decide) (by decide), h 5 (by decide) (by decide)]
  refine ⟨q1, q2, q3, q4, q5, q6, fun j j0 j1 => ?_⟩
  rw [h (7 + j) (by omega) (by omega)]
  exact q7 j j0 j1
/-- one word changed -/
theorem Rel_upd {I K : fM} {P : fN} {sc : Nat} {s t : Int → Int} {w : Int} (hr : Rel I P sc s) (hv : mOkr s) (hp : fPs P sc) (w0 : 0 ≤ w) (w1 : w < s 0) (ht : ∀ b : Int, (b < 13 + 19 * w ∨ 13 + 19 * w + 19 ≤ b) → t b = s b) (ko : ∀ a : Nat, a ≠ P (sc + 1) w → K a = I a) (kw : wRel (K (P (sc + 1) w)) (I (P (sc + 1) w + 1)) (fun q => t (13 + 19 * w + q))) : Rel K P sc t := by
  obtain ⟨r1, r2, r3, r4, r5⟩ := hr
  obtain ⟨⟨o1, o2, o3, o4⟩, o5⟩ := hv
  obtain ⟨j, hj, e⟩ := hp.1 w w0 (by omega)
  refine ⟨?_, ?_, ?_, fun i i0 i1 => ?_, fun v v0 v1 => ?_⟩
  · rw [ko sc (by omega), ht 0 (by omega)]; exact r1
  · rw [ko sc (by omega), ht 1 (by omega)]; exact r2
  · rw [ko sc (by omega), ht 2 (by omega)]; exact r3
  · rw [ht 1 (by omega)] at i1
    rw [ko (sc + 2) (by omega), ht (3 + i) (by omega)]
    exact r4 i i0 i1
  · rw [ht 0 (by omega)] at v1
    by_cases z : v = w
    · subst z
      rw [ko (P (sc + 1) v + 1) (by omega)]
      exact kw
    · obtain ⟨j2, hj2, e2⟩ := hp.1 v v0 (by omega)
      have hne : P (sc + 1) v ≠ P (sc + 1) w := fun y => z (hp.2 v w v0 (by omega) w0 (by omega) y)
      rw [ko _ hne, ko (P (sc + 1) v + 1) (by omega)]
      exact wRel_c (fun b b0 b1 => ht _ (by omega)) (o5 v v0 v1).1.2 (r5 v v0 v1)
theorem sDi_upd {s t : Int → Int} {w : Int} (h : sDi s) (hn : s 1 ≤ 10) (w0 : 0 ≤ w) (ht : ∀ b : Int, (b < 13 + 19 * w ∨ 13 + 19 * w + 19 ≤ b) → t b = s b) : sDi t := sDi_lo h (ht 1 (by omega)) (fun i i0 i1 => ht _ (by omega))
/-- removeWord -/
def rRem (s : Int → Int) (w : Int) : Int → Int := fun b => if 13 + 19 * w ≤ b ∧ b < 13 + 19 * w + 19 * (s 0 - 1 - w) then s (b + 19) else if b = 0 then s 0 - 1 else s b
theorem rRem_k {M : fM} {P : fN} {s : Int → Int} {w : Int} (h : RelK M P 1 s) (hp : fPs P 1) (w0 : 0 ≤ w) (w1 : w < s 0) : RelK (fup M 1 1 (M 1 1 - 1)) (pRot P 2 w (M 1 1 - 1)) 1 (rRem s w) := by
  obtain ⟨⟨r1, r2, r3, r4, r5⟩, ⟨⟨o1, o2, o3, o4⟩, o5⟩, hd⟩ := h
  have lo : ∀ b : Int, 0 < b → b < 13 → rRem s w b = s b := fun b b0 b1 => by
    unfold rRem
    rw [if_neg (by omega), if_neg (by omega)]
  have e0 : rRem s w 0 = s 0 - 1 := by
    unfold rRem
    rw [if_neg (by omega), if_pos rfl]
  have row : ∀ v q : Int, 0 ≤ v → v < s 0 - 1 → 0 ≤ q → q < 19 → rRem s w (13 + 19 * v + q) = s (13 + 19 * (if w ≤ v then v + 1 else v) + q) := fun v q v0 v1 q0 q1 => by
    unfold rRem
    by_cases z : w ≤ v
    · rw [if_pos (by omega), if_pos z]
      congr 1
      omega
    · rw [if_neg (by omega), if_neg (by omega), if_neg z]
  have rot : ∀ v : Int, 0 ≤ v → v < s 0 - 1 → pRot P 2 w (M 1 1 - 1) 2 v = P 2 (if w ≤ v then v + 1 else v) := fun v v0 v1 => by
    rw [pRot_i, r1]
    unfold pRi
    rw [if_neg (by omega)]
    by_cases z : w ≤ v
    · rw [if_pos ⟨z, v1⟩, if_pos z]
    · rw [if_neg (fun y => z y.1), if_neg z]
  refine ⟨⟨by rw [fup_s, e0, r1], by rw [fup_j (by decide), lo 1 (by decide) (by decide)]; exact r2, by rw [fup_j (by decide), lo 2 (by decide) (by decide)]; exact r3, fun i i0 i1 => ?_, fun v v0 v1 => ?_⟩, ⟨⟨by rw [e0]; omega, by rw [lo 1 (by decide) (by decide)]; exact o2, by rw [lo 2 (by decide) (by decide)]; exact o3, fun i i0 i1 => ?_⟩, fun v v0 v1 => ?_⟩, sDi_lo hd (lo 1 (by decide) (by decide)) (fun i i0 i1 => lo _ (by omega) (by omega))⟩
  · rw [lo 1 (by decide) (by decide)] at i1
    rw [fup_k (by decide), lo (3 + i) (by omega) (by omega)]
    exact r4 i i0 i1
  · rw [e0] at v1
    have hx : 0 ≤ (if w ≤ v then v + 1 else v) ∧ (if w ≤ v then v + 1 else v) < s 0 := by split <;> omega
    have k := r5 _ hx.1 hx.2
    have hb := fPs_w fSc_1 hp hx.1 (by omega)
    obtain ⟨j, hj, ej⟩ := hp.1 _ hx.1 (by omega)
    rw [show pRot P 2 w (M 1 1 - 1) (1 + 1) v = pRot P 2 w (M 1 1 - 1) 2 v from rfl, rot v v0 v1, show P 2 (if w ≤ v then v + 1 else v) = P (1 + 1) (if w ≤ v then v + 1 else v) from rfl, fup_ne (by omega), fup_ne (by omega)]
    exact wRel_c (fun q q0 q1 => row v q v0 v1 q0 q1) (o5 _ hx.1 hx.2).1.2 k
  · rw [lo 1 (by decide) (by decide)] at i1
    rw [lo (3 + i) (by omega) (by omega)]
    exact o4 i i0 i1
  · rw [e0] at v1
    have hx : 0 ≤ (if w ≤ v then v + 1 else v) ∧ (if w ≤ v then v + 1 else v) < s 0 := by split <;> omega
    exact mWv_c (fun q q0 q1 => row v q v0 v1 q0 (by omega)) (o5 _ hx.1 hx.2)
theorem st_rem {I J : fM} {P Q : fN} {w : Int} (S : Sim I P) (h : xAct I P J Q (0 ≤ w ∧ w < I 1 1) (fun M N => J = fup M 1 1 (M 1 1 - 1) ∧ Q = pRot N 2 w (M 1 1 - 1))) : mOk J ∧ qXRem I w = qMRem J w ∧ Sim (gMRem J w) Q := by
  have c0 : I 1 1 = I 215 0 := S.1.1.1
  have b0 := S.1.2.1.1.1
  by_cases ok : 0 ≤ w ∧ w < I 1 1
  · obtain ⟨M, N, r, hJ, hQ⟩ := xAct_yes h ok
    obtain ⟨n1, n2, n3, n4, n5⟩ := rec_now S r
    have jo : ∀ a : Nat, a ≠ 1 → J a = M a := fun a ha => by rw [hJ]; exact fup_ne ha
    have jr := rec_ref S r (fun a ha => jo a (by omega))
    have e5 := jr 215 (by decide)
    have a5 : mAct J 215 = I 215 := by rw [mAct_o (by decide) (by decide)]; exact e5
    have eM1 : M 1 1 = I 215 0 := by rw [n2 1 (by decide) (by decide)]; exact c0
    refine ⟨mOk_of S (jr 214 (by decide)) e5, ?_, ?_⟩
    · unfold qXRem qMRem
      rw [e5, c0]
    · unfold gMRem
      rw [if_pos (by rw [e5, ← c0]; exact ok), e5]
      refine act_step S r (fun a ha => jo a (by omega)) (by rw [jo 0 (by decide)]) (fun a ha => by rw [hQ]; exact pRot_o ha) (by rw [hQ]; exact fPa_rot (sd := 1) n4 ok.1 (by omega) (by omega)) (fun a ha => ?_) (rRem (I 215) w) ?_ (fun b _ _ => ?_)
      · rw [fcpy_ne ha, fup_ne ha]
      · rw [hJ, hQ]
        exact rRem_k n1 (n4 1 fSc_1) ok.1 (by omega)
      · unfold rRem
        by_cases z : 13 + 19 * w ≤ b ∧ b < 13 + 19 * w + 19 * (I 215 0 - 1 - w)
        · rw [fcpy_at z, if_pos z, fup_j (by omega), a5]
          congr 1
          omega
        · rw [fcpy_o (by omega), if_neg z]
          by_cases y : b = 0
          · rw [if_pos y, y, fup_s]
          · rw [if_neg y, fup_j y, a5]
  · obtain ⟨rfl, rfl⟩ := xAct_no h ok
    refine ⟨mOk_of S rfl rfl, ?_, ?_⟩
    · unfold qXRem qMRem
      rw [c0]
    · unfold gMRem
      rw [if_neg (by rw [← c0]; exact ok)]
      exact S
/-- setSpeed -/
theorem st_spd {I J : fM} {P Q : fN} {x : Int} (S : Sim I P) (h : xAct I P J Q (50 ≤ x ∧ x ≤ 400) (fun M N => J = fup M 1 4 x ∧ Q = N)) : mOk J ∧ qXSpeed I x = qMSpeed J x ∧ Sim (gMSpeed J x) Q := by
  have c0 : I 1 4 = I 215 2 := S.1.1.2.2.1
  by_cases ok : 50 ≤ x ∧ x ≤ 400
  · obtain ⟨M, N, r, hJ, hQ⟩ := xAct_yes h ok
    obtain ⟨⟨⟨r1, r2, r3, r4, r5⟩, ⟨⟨o1, o2, o3, o4⟩, o5⟩, hd⟩, n2, n3, n4, n5⟩ := rec_now S r
    have jo : ∀ a : Nat, a ≠ 1 → J a = M a := fun a ha => by rw [hJ]; exact fup_ne ha
    have jr := rec_ref S r (fun a ha => jo a (by omega))
    have e5 := jr 215 (by decide)
    have a5 : mAct J 215 = I 215 := by rw [mAct_o (by decide) (by decide)]; exact e5
    have hp := n4 1 fSc_1
    subst hQ
    refine ⟨mOk_of S (jr 214 (by decide)) e5, ?_, ?_⟩
    · unfold qXSpeed qMSpeed
      rw [e5, c0]
    · unfold gMSpeed
      rw [if_pos ok]
      have ro : ∀ b : Int, b ≠ 2 → rsv (I 215) 2 x b = I 215 b := fun b hb => rsv_n hb
      refine act_step S r (fun a ha => jo a (by omega)) (by rw [jo 0 (by decide)]) (fun _ _ => rfl) n4 (fun a ha => fup_ne ha) (rsv (I 215) 2 x) ?_ (fun b _ _ => by rw [fup_r, a5])
      refine ⟨⟨?_, ?_, ?_, fun i i0 i1 => ?_, fun v v0 v1 => ?_⟩, ⟨⟨by rw [ro 0 (by decide)]; exact o1, by rw [ro 1 (by decide)]; exact o2, by rw [rsv_s]; exact ok, fun i i0 i1 => by rw [ro 1 (by decide)] at i1; rw [ro (3 + i) (by omega)]; exact o4 i i0 i1⟩, fun v v0 v1 => by rw [ro 0 (by decide)] at v1; exact mWv_c (fun q q0 q1 => ro _ (by omega)) (o5 v v0 v1)⟩, sDi_lo hd (ro 1 (by decide)) (fun i i0 i1 => ro _ (by omega))⟩
      · rw [hJ, fup_j (by decide), ro 0 (by decide)]; exact r1
      · rw [hJ, fup_j (by decide), ro 1 (by decide)]; exact r2
      · rw [hJ, fup_s, rsv_s]
      · rw [ro 1 (by decide)] at i1
        rw [jo (1 + 2) (by decide), ro (3 + i) (by omega)]
        exact r4 i i0 i1
      · rw [ro 0 (by decide)] at v1
        obtain ⟨j, hj, ej⟩ := hp.1 v v0 (by omega)
        rw [jo _ (by omega), jo _ (by omega)]
        exact wRel_c (fun q q0 q1 => ro _ (by omega)) (o5 v v0 v1).1.2 (r5 v v0 v1)
  · obtain ⟨rfl, rfl⟩ := xAct_no h ok
    refine ⟨mOk_of S rfl rfl, ?_, ?_⟩
    · unfold qXSpeed qMSpeed
      rw [c0]
    · unfold gMSpeed
      rw [if_neg ok]
      exact S
/-- addShot -/
theorem sho_iff {I : fM} {P : fN} {f : Int} (S : Sim I P) : (xShotOf I 1 f < I 1 3 ↔ hasS (I 215) f) ∧ (qMShotOf I f = -19 ↔ ¬ hasS (I 215) f) ∧ I 1 3 = I 215 1 := by
  obtain ⟨⟨⟨r1, r2, r3, r4, r5⟩, ⟨⟨o1, o2, o3, o4⟩, o5⟩, hd⟩, -⟩ := S
  exact ⟨hasS_iff o2.1 r2 r4, (qM_has o2).1, r2⟩
theorem qMS_eq {I J : fM} (e : J 215 = I 215) (f : Int) : qMShotOf J f = qMShotOf I f := by
  unfold qMShotOf
  rw [e]
theorem st_ash {I J : fM} {P Q : fN} {f : Int} (S : Sim I P) (h : xAct I P J Q ((1 ≤ f ∧ f ≤ 3000) ∧ ¬ xShotOf I 1 f < I 1 3 ∧ I 1 3 ≠ 10) (fun M N => J = xInsS M f ∧ Q = N)) : mOk J ∧ qXAddShot I f = qMAddShot J f ∧ Sim (gMAddShot J f) Q := by
  obtain ⟨i1, i2, c0⟩ := sho_iff (f := f) S
  have hq : qXAddShot I f = qMAddShot I f := by
    unfold qXAddShot qMAddShot
    rw [c0] at i1 ⊢
    by_cases z : 1 ≤ f ∧ f ≤ 3000
    · rw [if_pos z, if_pos z]
      by_cases y : hasS (I 215) f
      · rw [if_pos (i1.mpr y), if_pos (fun q => (i2.mp q) y)]
      · rw [if_neg (fun q => y (i1.mp q)), if_neg (c := qMShotOf I f ≠ -19) (fun q => q (i2.mpr y))]
    · rw [if_neg z, if_neg z]
  by_cases ok : (1 ≤ f ∧ f ≤ 3000) ∧ ¬ xShotOf I 1 f < I 1 3 ∧ I 1 3 ≠ 10
  · obtain ⟨M, N, r, hJ, hQ⟩ := xAct_yes h ok
    obtain ⟨n1, n2, n3, n4, n5⟩ := rec_now S r
    have jo : ∀ a : Nat, (a < 1 ∨ 31 ≤ a) → J a = M a := fun a ha => by rw [hJ]; exact xIns_o (sc := 1) ha
    have jr := rec_ref S r (fun a ha => jo a (by omega))
    have e5 := jr 215 (by decide)
    have a5 : mAct J 215 = I 215 := by rw [mAct_o (by decide) (by decide)]; exact e5
    have hno : ¬ hasS (I 215) f := fun z => ok.2.1 (i1.mpr z)
    subst hQ
    refine ⟨mOk_of S (jr 214 (by decide)) e5, ?_, ?_⟩
    · rw [hq]
      unfold qMAddShot
      rw [qMS_eq e5, e5]
    · unfold gMAddShot
      rw [if_pos ⟨ok.1, by rw [qMS_eq e5]; exact i2.mpr hno, by rw [e5, ← c0]; exact ok.2.2⟩, e5]
      refine act_step S r (fun a ha => jo a (by omega)) (by rw [jo 0 (by decide)]) (fun _ _ => rfl) n4 (fun a ha => ?_) (rShot (I 215) f) ?_ (fun b _ _ => ?_)
      · rw [fup_ne ha]
        funext b
        unfold fIns
        rw [if_neg (fun z => ha z.1), if_neg (fun z => ha z.1)]
      · rw [hJ]
        exact ⟨Rel_shot (sc := 1) n1.1 n1.2.1 fSc_1 (n4 1 fSc_1) (by have := n1.2.1.1.2.1; omega), mOkr_shot n1.2.1 (by have := n1.2.1.1.2.1; omega) ok.1, sDi_shot n1.2.2 n1.2.1.1.2.1.1 hno⟩
      · have k := rShot_eq (M := mAct J) (f := f)
        rw [a5] at k
        rw [k]
  · obtain ⟨rfl, rfl⟩ := xAct_no h ok
    refine ⟨mOk_of S rfl rfl, hq, ?_⟩
    unfold gMAddShot
    rw [if_neg (fun z => ok ⟨z.1, fun y => (i2.mp z.2.1) (i1.mp y), by rw [c0]; exact z.2.2⟩)]
    exact S
/-- removeShot -/
def rDel (s : Int → Int) (q : Int) : Int → Int := fun b => if 3 + q ≤ b ∧ b < 3 + q + (s 1 - 1 - q) then s (b + 1) else if b = 1 then s 1 - 1 else s b
theorem rDel_k {M : fM} {P : fN} {s : Int → Int} {q : Int} (h : RelK M P 1 s) (hp : fPs P 1) (q0 : 0 ≤ q) (q1 : q < s 1) : RelK (xDelS M q) P 1 (rDel s q) := by
  obtain ⟨⟨r1, r2, r3, r4, r5⟩, ⟨⟨o1, o2, o3, o4⟩, o5⟩, hd⟩ := h
  have ro : ∀ b : Int, (b = 0 ∨ b = 2 ∨ 13 ≤ b) → rDel s q b = s b := fun b hb => by
    unfold rDel
    rw [if_neg (by omega), if_neg (by omega)]
  have e1 : rDel s q 1 = s 1 - 1 := by
    unfold rDel
    rw [if_neg (by omega), if_pos rfl]
  have sh : ∀ i : Int, 0 ≤ i → i < s 1 - 1 → rDel s q (3 + i) = s (3 + (if q ≤ i then i + 1 else i)) := fun i i0 i1 => by
    unfold rDel
    by_cases z : q ≤ i
    · rw [if_pos (by omega), if_pos z]
      congr 1
      omega
    · rw [if_neg (by omega), if_neg (by omega), if_neg z]
  have xo : ∀ a : Nat, a ≠ 1 → a ≠ 3 → xDelS M q a = M a := fun a h1 h3 => by
    unfold xDelS
    rw [fup_ne h1, fcpy_ne h3]
  have x1 : ∀ b : Int, b ≠ 3 → xDelS M q 1 b = M 1 b := fun b hb => by
    unfold xDelS
    rw [fup_j hb, fcpy_k (by decide)]
  refine ⟨⟨by rw [x1 1 (by decide), ro 0 (by omega)]; exact r1, ?_, by rw [x1 4 (by decide), ro 2 (by omega)]; exact r3, fun i i0 i1 => ?_, fun v v0 v1 => ?_⟩, ⟨⟨by rw [ro 0 (by omega)]; exact o1, by rw [e1]; omega, by rw [ro 2 (by omega)]; exact o3, fun i i0 i1 => ?_⟩, fun v v0 v1 => ?_⟩, fun i j i0 ij j1 => ?_⟩
  · unfold xDelS
    rw [fup_s, e1, r2]
  · rw [e1] at i1
    rw [sh i i0 i1]
    unfold xDelS
    rw [fup_k (by decide), show (1 + 2 : Nat) = 3 from rfl, r2]
    by_cases z : q ≤ i
    · rw [fcpy_at (by omega), if_pos z, show q + 1 + (i - q) = i + 1 by omega]
      exact r4 (i + 1) (by omega) (by omega)
    · rw [fcpy_o (by omega), if_neg z]
      exact r4 i i0 (by omega)
  · rw [ro 0 (by omega)] at v1
    obtain ⟨j, hj, ej⟩ := hp.1 v v0 (by omega)
    rw [xo _ (by omega) (by omega), xo _ (by omega) (by omega)]
    exact wRel_c (fun b b0 b1 => ro _ (by omega)) (o5 v v0 v1).1.2 (r5 v v0 v1)
  · rw [e1] at i1
    rw [sh i i0 i1]
    exact o4 _ (by split <;> omega) (by split <;> omega)
  · rw [ro 0 (by omega)] at v1
    exact mWv_c (fun b b0 b1 => ro _ (by omega)) (o5 v v0 v1)
  · rw [e1] at j1
    rw [sh i i0 (by omega), sh j (by omega) j1]
    exact hd _ _ (by split <;> omega) (by (repeat' split) <;> omega) (by split <;> omega)
theorem st_rsh {I J : fM} {P Q : fN} {f : Int} (S : Sim I P) (h : xAct I P J Q ((1 ≤ f ∧ f ≤ 3000) ∧ xShotOf I 1 f < I 1 3) (fun M N => J = xDelS M (xShotOf I 1 f) ∧ Q = N)) : mOk J ∧ qXRemShot I f = qMRemShot J f ∧ Sim (gMRemShot J f) Q := by
  obtain ⟨i1, i2, c0⟩ := sho_iff (f := f) S
  have hq : qXRemShot I f = qMRemShot I f := by
    unfold qXRemShot qMRemShot
    by_cases z : 1 ≤ f ∧ f ≤ 3000
    · rw [if_pos z, if_pos z]
      by_cases y : hasS (I 215) f
      · rw [if_pos (i1.mpr y), if_neg (fun q => (i2.mp q) y), c0]
      · rw [if_neg (fun q => y (i1.mp q)), if_pos (i2.mpr y)]
    · rw [if_neg z, if_neg z]
  by_cases ok : (1 ≤ f ∧ f ≤ 3000) ∧ xShotOf I 1 f < I 1 3
  · obtain ⟨M, N, r, hJ, hQ⟩ := xAct_yes h ok
    obtain ⟨n1, n2, n3, n4, n5⟩ := rec_now S r
    obtain ⟨q, hqe⟩ : ∃ q, q = xShotOf I 1 f := ⟨_, rfl⟩
    have jo : ∀ a : Nat, a ≠ 1 → a ≠ 3 → J a = M a := fun a h1 h3 => by
      rw [hJ]
      unfold xDelS
      rw [fup_ne h1, fcpy_ne h3]
    have jr := rec_ref S r (fun a ha => jo a (by omega) (by omega))
    have e5 := jr 215 (by decide)
    have a5 : mAct J 215 = I 215 := by rw [mAct_o (by decide) (by decide)]; exact e5
    have hyes : hasS (I 215) f := i1.mp ok.2
    have o2 := S.1.2.1.1.2.1
    have r4 := S.1.1.2.2.2.1
    have eq : sF (fun i => I 215 (3 + i) = f) 0 (I 215 1) = q := by
      rw [hqe]
      unfold xShotOf
      rw [c0]
      exact sF_c (fun i i0 i1 => by rw [← r4 i i0 i1])
    have q0 : 0 ≤ q := by rw [← eq]; exact (sF_is o2.1).1.1
    have q1 : q < I 215 1 := by rw [hqe, ← c0]; exact ok.2
    have emq : qMShotOf J f = q := by
      rw [qMS_eq e5]
      unfold qMShotOf
      rw [eq, if_pos q1]
    subst hQ
    refine ⟨mOk_of S (jr 214 (by decide)) e5, ?_, ?_⟩
    · rw [hq]
      unfold qMRemShot
      rw [qMS_eq e5, e5]
    · unfold gMRemShot
      rw [if_pos ⟨ok.1, by rw [emq]; omega⟩, emq, e5]
      refine act_step S r (fun a ha => jo a (by omega) (by omega)) (by rw [jo 0 (by decide) (by decide)]) (fun _ _ => rfl) n4 (fun a ha => by rw [fcpy_ne ha, fup_ne ha]) (rDel (I 215) q) ?_ (fun b _ _ => ?_)
      · rw [hJ, ← hqe]
        exact rDel_k n1 (n4 1 fSc_1) q0 q1
      · unfold rDel
        by_cases z : 3 + q ≤ b ∧ b < 3 + q + (I 215 1 - 1 - q)
        · rw [fcpy_at z, if_pos z, fup_j (by omega), a5]
          congr 1
          omega
        · rw [fcpy_o (by omega), if_neg z]
          by_cases y : b = 1
          · rw [if_pos y, y, fup_s]
          · rw [if_neg y, fup_j y, a5]
  · obtain ⟨rfl, rfl⟩ := xAct_no h ok
    refine ⟨mOk_of S rfl rfl, hq, ?_⟩
    unfold gMRemShot
    have hn : ¬ ((1 ≤ f ∧ f ≤ 3000) ∧ qMShotOf J f ≠ -19) := fun z => ok ⟨z.1, i1.mpr (Classical.byContradiction fun y => z.2 (i2.mpr y))⟩
    rw [if_neg hn]
    exact S
