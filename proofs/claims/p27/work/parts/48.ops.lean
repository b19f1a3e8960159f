/-! OPS: what each call answers and leaves, in words of the row -/
abbrev gh (s : Int → Int) : fM := fun _ => s
/-- an action's end: refused, all is as it was; else the new state t, the old one kept -/
def oSt (K : fM) (Q : fN) (s : Int → Int) (k : Nat) (tp : Nat → Int → Int) (v : Int) (t : Int → Int) : Prop := (v ≤ -11 ∧ St K Q s k tp) ∨ (-11 < v ∧ St K Q t (k + 1) (tcons s tp))
theorem St_c0 {I : fM} {P : fN} {s : Int → Int} {k : Nat} {tp : Nat → Int → Int} (S : St I P s k tp) : I 1 1 = s 0 ∧ mOkr s ∧ sDi s ∧ Rel I P 1 s := by
  obtain ⟨S0, hs, -⟩ := S
  subst hs
  exact ⟨S0.1.1.1, S0.1.2.1, S0.1.2.2, S0.1.1⟩
theorem oSt_no {I : fM} {P : fN} {s t : Int → Int} {k : Nat} {tp : Nat → Int → Int} {v : Int} (S : St I P s k tp) (hv : v ≤ -11) : ∃ K : fM, (∀ a : Nat, a < 214 → K a = I a) ∧ oSt K P s k tp v t := ⟨I, fun _ _ => rfl, Or.inl ⟨hv, S⟩⟩
theorem oSt_yes {J : fM} {Q : fN} {s t : Int → Int} {k : Nat} {tp : Nat → Int → Int} {v : Int} (hv : -11 < v) (h : ∃ K : fM, (∀ a : Nat, a < 214 → K a = J a) ∧ St K Q t (k + 1) (tcons s tp)) : ∃ K : fM, (∀ a : Nat, a < 214 → K a = J a) ∧ oSt K Q s k tp v t := by
  obtain ⟨K, k1, k2⟩ := h
  exact ⟨K, k1, Or.inr ⟨hv, k2⟩⟩
/-- addWord -/
def vAdd (s : Int → Int) (le f sp he way : Int) : Int := if addV le f sp he way then (if s 0 = 12 then -13 else s 0) else -11
def tAdd (s : Int → Int) (le f sp he way : Int) : Int → Int := nrm (rWord (fun i => 97 + i) s 0 le f sp he way)
theorem rWord_lo {T s : Int → Int} {a l f sp h w b : Int} (b0 : 0 < b) (b1 : b < 13 + 19 * s 0) : rWord T s a l f sp h w b = s b := by
  unfold rWord
  rw [if_neg (by omega), if_neg (by omega), if_neg (by omega), if_neg (by omega), if_neg (by omega), if_neg (by omega), if_neg (by omega), if_neg (by omega), if_neg (by omega)]
theorem g_add {I J : fM} {P Q : fN} {s : Int → Int} {k : Nat} {tp : Nat → Int → Int} {le f sp he way : Int} (S : St I P s k tp) (hk : k ≤ 4) (h : xAct I P J Q (addV le f sp he way ∧ I 1 1 ≠ 12) (fun M N => J = xApp M N 1 le f sp he way ∧ Q = N)) : qXAdd I le f sp he way = vAdd s le f sp he way ∧ ∃ K : fM, (∀ a : Nat, a < 214 → K a = J a) ∧ oSt K Q s k tp (vAdd s le f sp he way) (tAdd s le f sp he way) := by
  obtain ⟨c0, hv, hd, -⟩ := St_c0 S
  have hA := S.2.2.2.1
  have b0 := hv.1.1
  refine ⟨by unfold qXAdd vAdd; rw [c0], ?_⟩
  by_cases ok : addV le f sp he way ∧ I 1 1 ≠ 12
  · obtain ⟨M, N, r, hJ, hQ⟩ := xAct_yes h ok
    obtain ⟨n1, n2, n3, n4, n5⟩ := rec_now S.1 r
    rw [S.2.1] at n1
    have hpN := n4 1 fSc_1
    have eM1 : M 1 1 = s 0 := by rw [n2 1 (by decide) (by decide)]; exact c0
    obtain ⟨j, hj, ej⟩ := hpN.1 (s 0) b0.1 (by omega)
    have jo : ∀ a : Nat, (a < 1 ∨ 31 ≤ a) → J a = M a := fun a ha => by rw [hJ]; exact xApp_o fSc_1 hpN (by omega) (by omega)
    have ad := ok.1
    subst hQ
    refine oSt_yes (by unfold vAdd; rw [if_pos ad, if_neg (by omega)]; omega) (ac_St S hk r (fun a ha => jo a (by omega)) (by rw [jo 0 (by decide)]) (fun _ _ => rfl) n4 ?_ ?_)
    · rw [hJ]
      exact ⟨Rel_app n1.1 n1.2.1 fSc_1 hpN ad.1 (by omega), mOkr_word n1.2.1 (by omega) ad.1 ad.2.1 ad.2.2.1 ad.2.2.2.1 ad.2.2.2.2, sDi_word n1.2.2 n1.2.1 ad.1.1⟩
    · have h10 := hv.1.2.1
      exact sAs_lo hA (rWord_lo (by decide) (by omega)) (fun i i0 i1 => rWord_lo (by omega) (by omega))
  · obtain ⟨rfl, rfl⟩ := xAct_no h ok
    refine oSt_no S ?_
    unfold vAdd
    by_cases z : addV le f sp he way
    · rw [if_pos z, if_pos (by rw [← c0]; exact Classical.byContradiction fun y => ok ⟨z, y⟩)]; decide
    · rw [if_neg z]; decide
/-- removeWord -/
def vRem (s : Int → Int) (w : Int) : Int := if 0 ≤ w ∧ w < s 0 then s 0 - 1 else -11
def tRem (s : Int → Int) (w : Int) : Int → Int := nrm (rRem s w)
theorem g_rem {I J : fM} {P Q : fN} {s : Int → Int} {k : Nat} {tp : Nat → Int → Int} {w : Int} (S : St I P s k tp) (hk : k ≤ 4) (h : xAct I P J Q (0 ≤ w ∧ w < I 1 1) (fun M N => J = fup M 1 1 (M 1 1 - 1) ∧ Q = pRot N 2 w (M 1 1 - 1))) : qXRem I w = vRem s w ∧ ∃ K : fM, (∀ a : Nat, a < 214 → K a = J a) ∧ oSt K Q s k tp (vRem s w) (tRem s w) := by
  obtain ⟨c0, hv, hd, -⟩ := St_c0 S
  have hA := S.2.2.2.1
  have b0 := hv.1.1
  refine ⟨by unfold qXRem vRem; rw [c0], ?_⟩
  by_cases ok : 0 ≤ w ∧ w < I 1 1
  · obtain ⟨M, N, r, hJ, hQ⟩ := xAct_yes h ok
    obtain ⟨n1, n2, n3, n4, n5⟩ := rec_now S.1 r
    rw [S.2.1] at n1
    have jo : ∀ a : Nat, a ≠ 1 → J a = M a := fun a ha => by rw [hJ]; exact fup_ne ha
    have eM1 : M 1 1 = s 0 := by rw [n2 1 (by decide) (by decide)]; exact c0
    refine oSt_yes (by unfold vRem; rw [if_pos (by omega)]; omega) (ac_St S hk r (fun a ha => jo a (by omega)) (by rw [jo 0 (by decide)]) (fun a ha => by rw [hQ]; exact pRot_o ha) (by rw [hQ]; exact fPa_rot (sd := 1) n4 ok.1 (by omega) (by omega)) (t := rRem s w) ?_ ?_)
    · rw [hJ, hQ]
      exact rRem_k n1 (n4 1 fSc_1) ok.1 (by omega)
    · have h10 := hv.1.2.1
      have lo : ∀ b : Int, 0 < b → b < 13 → rRem s w b = s b := fun b b0 b1 => by
        unfold rRem
        rw [if_neg (by omega), if_neg (by omega)]
      exact sAs_lo hA (lo 1 (by decide) (by decide)) (fun i i0 i1 => lo _ (by omega) (by omega))
  · obtain ⟨rfl, rfl⟩ := xAct_no h ok
    refine oSt_no S ?_
    unfold vRem
    rw [if_neg (by rw [← c0]; exact ok)]; decide
/-- one word changed -/
theorem upd_now {I M J : fM} {P N : fN} {s : Int → Int} {w : Int} {t : Int → Int} (S : Sim I P) (e5 : I 215 = s) (r : xRec I P M N) (w0 : 0 ≤ w) (w1 : w < s 0) (jo : ∀ a : Nat, a ≠ N 2 w → J a = M a) (ht : ∀ b : Int, (b < 13 + 19 * w ∨ 13 + 19 * w + 19 ≤ b) → t b = s b) (kw : wRel (M (N 2 w)) (M (N 2 w + 1)) (fun q => s (13 + 19 * w + q)) → wRel (J (N 2 w)) (M (N 2 w + 1)) (fun q => t (13 + 19 * w + q))) (mw : mWv (fun q => t (13 + 19 * w + q))) : RelK J N 1 t ∧ (∀ a : Nat, (a = 0 ∨ 62 ≤ a) → J a = M a) := by
  subst e5
  obtain ⟨n1, n2, n3, n4, n5⟩ := rec_now S r
  obtain ⟨j, hj, ej⟩ := (n4 1 fSc_1).1 w w0 (by have := n1.2.1.1.1; omega)
  have ej : N 2 w = 1 + 6 + 2 * j := ej
  have k := upd_step (K := fun a => if a = 215 then t else mAct J a) S r w0 w1 jo ht kw mw (fun a ha => if_neg ha) (fun b _ _ => by show (if (215 : Nat) = 215 then t else mAct J 215) b = t b; rw [if_pos rfl])
  exact ⟨k.2.1, fun a ha => jo a (by omega)⟩
/-- setWord -/
def vSet (s : Int → Int) (w what v : Int) : Int := if (0 ≤ w ∧ w < s 0) ∧ sAllowed what v = true then s (13 + 19 * w + what) else -11
def tSet (s : Int → Int) (w what v : Int) : Int → Int := nrm (rOff (rsv s (13 + 19 * w + what) v) w)
theorem g_set {I J : fM} {P Q : fN} {s : Int → Int} {k : Nat} {tp : Nat → Int → Int} {w what v : Int} (S : St I P s k tp) (hk : k ≤ 4) (h : xAct I P J Q ((0 ≤ w ∧ w < I 1 1) ∧ sAllowed what v = true) (fun M N => J = fup (fup M (N 2 w) (what + 2) v) (N 2 w) 6 0 ∧ Q = N)) : qXSet I P w what v = vSet s w what v ∧ ∃ K : fM, (∀ a : Nat, a < 214 → K a = J a) ∧ oSt K Q s k tp (vSet s w what v) (tSet s w what v) := by
  obtain ⟨c0, hvv, hd, hrel⟩ := St_c0 S
  have hA := S.2.2.2.1
  have b0 := hvv.1.1
  refine ⟨?_, ?_⟩
  · unfold qXSet vSet
    rw [c0]
    by_cases z : (0 ≤ w ∧ w < s 0) ∧ sAllowed what v = true
    · rw [if_pos z, if_pos z]
      have k := Rel_pl hrel z.1.1 z.1.2
      obtain ⟨k1, k2, k3, k4, k5, k6⟩ := k
      dsimp only at k1 k2 k3 k4 k5 k6
      rcases sAl_b z.2 with ⟨rfl, -⟩ | ⟨rfl, -⟩ | ⟨rfl, -⟩ | ⟨rfl, -⟩
      · exact k2
      · exact k3
      · exact k4
      · exact k5
    · rw [if_neg z, if_neg z]
  by_cases ok : (0 ≤ w ∧ w < I 1 1) ∧ sAllowed what v = true
  · obtain ⟨M, N, r, hJ, hQ⟩ := xAct_yes h ok
    subst hQ
    have w1 : w < s 0 := by omega
    obtain ⟨v1, v2, v3, v4, v5, v6, v7, v8⟩ := hvv.2 w ok.1.1 w1
    dsimp only at v1 v2 v3 v4 v5 v6 v7 v8
    have al := sAl_b ok.2
    have ro : ∀ b : Int, b ≠ 13 + 19 * w + 4 → b ≠ 13 + 19 * w + 5 → b ≠ 13 + 19 * w + what → rOff (rsv s (13 + 19 * w + what) v) w b = s b := fun b h4 h5 h6 => by
      unfold rOff
      rw [rLay_o h4 h5, rsv_n h6]
    have rw_ : rOff (rsv s (13 + 19 * w + what) v) w (13 + 19 * w + what) = v := by
      unfold rOff
      rw [rLay_o (by omega) (by omega), rsv_s]
    have r4 : rOff (rsv s (13 + 19 * w + what) v) w (13 + 19 * w + 4) = -1 := rLay_4
    have r5 : rOff (rsv s (13 + 19 * w + what) v) w (13 + 19 * w + 5) = -1 := rLay_5
    obtain ⟨now, jm⟩ := upd_now (J := J) (t := rOff (rsv s (13 + 19 * w + what) v) w) S.1 S.2.1 r ok.1.1 w1 (fun a ha => by rw [hJ, fup_ne ha, fup_ne ha]) (fun b hb => ro b (by omega) (by omega) (by omega)) (by
      intro k
      obtain ⟨k1, k2, k3, k4, k5, k6, k7⟩ := k
      dsimp only at k1 k2 k3 k4 k5 k6 k7
      have j6 : J (Q 2 w) 6 = 0 := by rw [hJ, fup_s]
      have jw : J (Q 2 w) (what + 2) = v := by rw [hJ, fup_j (by omega), fup_s]
      have jn : ∀ b : Int, b ≠ 6 → b ≠ what + 2 → J (Q 2 w) b = M (Q 2 w) b := fun b h6 hb => by rw [hJ, fup_j h6, fup_j hb]
      unfold wRel
      dsimp only
      rw [r4, ro (13 + 19 * w + 6) (by omega) (by omega) (by omega)]
      have let_ : ∀ j : Int, 0 ≤ j → j < s (13 + 19 * w + 6) → M (Q 2 w + 1) j = rOff (rsv s (13 + 19 * w + what) v) w (13 + 19 * w + (7 + j)) := fun j j0 j1 => by
        rw [ro _ (by omega) (by omega) (by omega)]
        exact k7 j j0 j1
      rcases al with ⟨rfl, -⟩ | ⟨rfl, -⟩ | ⟨rfl, -⟩ | ⟨rfl, -⟩
      · rw [ro (13 + 19 * w + 1) (by omega) (by omega) (by omega), ro (13 + 19 * w + 2) (by omega) (by omega) (by omega), ro (13 + 19 * w + 3) (by omega) (by omega) (by omega), rw_]
        exact ⟨(jn 1 (by decide) (by decide)).trans k1, jw, (jn 3 (by decide) (by decide)).trans k3, (jn 4 (by decide) (by decide)).trans k4, (jn 5 (by decide) (by decide)).trans k5, Or.inl ⟨j6, rfl⟩, let_⟩
      · rw [ro (13 + 19 * w + 0) (by omega) (by omega) (by omega), ro (13 + 19 * w + 2) (by omega) (by omega) (by omega), ro (13 + 19 * w + 3) (by omega) (by omega) (by omega), rw_]
        exact ⟨(jn 1 (by decide) (by decide)).trans k1, (jn 2 (by decide) (by decide)).trans k2, jw, (jn 4 (by decide) (by decide)).trans k4, (jn 5 (by decide) (by decide)).trans k5, Or.inl ⟨j6, rfl⟩, let_⟩
      · rw [ro (13 + 19 * w + 0) (by omega) (by omega) (by omega), ro (13 + 19 * w + 1) (by omega) (by omega) (by omega), ro (13 + 19 * w + 3) (by omega) (by omega) (by omega), rw_]
        exact ⟨(jn 1 (by decide) (by decide)).trans k1, (jn 2 (by decide) (by decide)).trans k2, (jn 3 (by decide) (by decide)).trans k3, jw, (jn 5 (by decide) (by decide)).trans k5, Or.inl ⟨j6, rfl⟩, let_⟩
      · rw [ro (13 + 19 * w + 0) (by omega) (by omega) (by omega), ro (13 + 19 * w + 1) (by omega) (by omega) (by omega), ro (13 + 19 * w + 2) (by omega) (by omega) (by omega), rw_]
        exact ⟨(jn 1 (by decide) (by decide)).trans k1, (jn 2 (by decide) (by decide)).trans k2, (jn 3 (by decide) (by decide)).trans k3, (jn 4 (by decide) (by decide)).trans k4, jw, Or.inl ⟨j6, rfl⟩, let_⟩) (by
      unfold mWv
      dsimp only
      rw [r4, r5, ro (13 + 19 * w + 6) (by omega) (by omega) (by omega)]
      rcases al with ⟨rfl, hb⟩ | ⟨rfl, hb⟩ | ⟨rfl, hb⟩ | ⟨rfl, hb⟩
      · rw [ro (13 + 19 * w + 1) (by omega) (by omega) (by omega), ro (13 + 19 * w + 2) (by omega) (by omega) (by omega), ro (13 + 19 * w + 3) (by omega) (by omega) (by omega), rw_]
        omega
      · rw [ro (13 + 19 * w + 0) (by omega) (by omega) (by omega), ro (13 + 19 * w + 2) (by omega) (by omega) (by omega), ro (13 + 19 * w + 3) (by omega) (by omega) (by omega), rw_]
        omega
      · rw [ro (13 + 19 * w + 0) (by omega) (by omega) (by omega), ro (13 + 19 * w + 1) (by omega) (by omega) (by omega), ro (13 + 19 * w + 3) (by omega) (by omega) (by omega), rw_]
        omega
      · rw [ro (13 + 19 * w + 0) (by omega) (by omega) (by omega), ro (13 + 19 * w + 1) (by omega) (by omega) (by omega), ro (13 + 19 * w + 2) (by omega) (by omega) (by omega), rw_]
        omega)
    refine oSt_yes ?_ (ac_St S hk r (fun a ha => jm a (by omega)) (by rw [jm 0 (by omega)]) (fun _ _ => rfl) (rec_now S.1 r).2.2.2.1 now ?_)
    · unfold vSet
      rw [if_pos ⟨⟨ok.1.1, w1⟩, ok.2⟩]
      rcases al with ⟨rfl, -⟩ | ⟨rfl, -⟩ | ⟨rfl, -⟩ | ⟨rfl, -⟩ <;> omega
    · have h10 := hvv.1.2.1
      exact sAs_lo hA (ro 1 (by omega) (by omega) (by omega)) (fun i i0 i1 => ro _ (by omega) (by omega) (by omega))
  · obtain ⟨rfl, rfl⟩ := xAct_no h ok
    refine oSt_no S ?_
    unfold vSet
    rw [if_neg (by rw [← c0]; exact ok)]; decide
/-- addShot -/
noncomputable def vAsh (s : Int → Int) (f : Int) : Int := qMAddShot (gh s) f
def tAsh (s : Int → Int) (f : Int) : Int → Int := nrm (rShot s f)
theorem pIns_hi (sh : Int → Int) (f : Int) : ∀ n i : Nat, pIns sh f n ≤ i → i < n → f < sh i := by
  intro n
  induction n with
  | zero => intro i _ h; omega
  | succ n ih =>
    intro i h1 h2
    have e : pIns sh f (n + 1) = if f < sh n then pIns sh f n else n + 1 := rfl
    rw [e] at h1
    by_cases z : f < sh n
    · rw [if_pos z] at h1
      by_cases y : i = n
      · rw [y]; exact z
      · exact ih i h1 (by omega)
    · rw [if_neg z] at h1
      omega
theorem pIns_lo (sh : Int → Int) (f : Int) : ∀ n : Nat, 0 < pIns sh f n → ¬ f < sh ((pIns sh f n : Nat) - 1 : Int) := by
  intro n
  induction n with
  | zero => intro h; exact absurd h (Nat.lt_irrefl 0)
  | succ n ih =>
    have e : pIns sh f (n + 1) = if f < sh n then pIns sh f n else n + 1 := rfl
    rw [e]
    by_cases z : f < sh n
    · rw [if_pos z]; exact ih
    · rw [if_neg z]
      intro _
      rw [show (((n + 1 : Nat) : Int) - 1) = (n : Int) by omega]
      exact z
theorem sAs_shot {s : Int → Int} {f : Int} (h : sAs s) (hn : 0 ≤ s 1) (hf : ¬ hasS s f) : sAs (rShot s f) := by
  have k := pIns_le (fun i => s (3 + i)) f (s 1).toNat
  have hi := pIns_hi (fun i => s (3 + i)) f (s 1).toNat
  have lo := pIns_lo (fun i => s (3 + i)) f (s 1).toNat
  obtain ⟨p, hp⟩ : ∃ p, p = pIns (fun i => s (3 + i)) f (s 1).toNat := ⟨_, rfl⟩
  have no : ∀ i : Int, 0 ≤ i → i < s 1 → s (3 + i) ≠ f := fun i i0 i1 z => hf ⟨i, i0, i1, z⟩
  have le : ∀ i j : Int, 0 ≤ i → i ≤ j → j < s 1 → s (3 + i) ≤ s (3 + j) := fun i j i0 ij j1 => by
    by_cases e : i = j
    · rw [e]; exact Int.le_refl _
    · have := h i j i0 (by omega) j1; omega
  have hi2 : ∀ i : Int, (p : Int) ≤ i → i < s 1 → f < s (3 + i) := fun i i0 i1 => by
    have := hi i.toNat (by omega) (by omega)
    (try dsimp only at this)
    rw [show ((i.toNat : Nat) : Int) = i by omega] at this
    exact this
  have lo2 : ∀ i : Int, 0 ≤ i → i < (p : Int) → s (3 + i) < f := fun i i0 i1 => by
    have := lo (by omega)
    (try dsimp only at this)
    rw [← hp] at this
    have a := le i ((p : Int) - 1) i0 (by omega) (by omega)
    have b := no i i0 (by omega)
    omega
  intro i j i0 ij j1
  rw [rShot_1] at j1
  rw [rShot_i i0, rShot_i (by omega), ← hp]
  by_cases a1 : (p : Int) < i ∧ i ≤ s 1
  · rw [if_pos a1, if_pos (by omega)]
    exact h _ _ (by omega) (by omega) (by omega)
  · rw [if_neg a1]
    by_cases a2 : i = (p : Int)
    · rw [if_pos a2, if_pos (by omega)]
      exact hi2 _ (by omega) (by omega)
    · rw [if_neg a2]
      by_cases b1 : (p : Int) < j ∧ j ≤ s 1
      · rw [if_pos b1]
        have := lo2 i i0 (by omega)
        have := hi2 (j - 1) (by omega) (by omega)
        omega
      · rw [if_neg b1]
        by_cases b2 : j = (p : Int)
        · rw [if_pos b2]
          exact lo2 i i0 (by omega)
        · rw [if_neg b2]
          exact h _ _ i0 ij (by omega)
theorem g_ash {I J : fM} {P Q : fN} {s : Int → Int} {k : Nat} {tp : Nat → Int → Int} {f : Int} (S : St I P s k tp) (hk : k ≤ 4) (h : xAct I P J Q ((1 ≤ f ∧ f ≤ 3000) ∧ ¬ xShotOf I 1 f < I 1 3 ∧ I 1 3 ≠ 10) (fun M N => J = xInsS M f ∧ Q = N)) : qXAddShot I f = vAsh s f ∧ ∃ K : fM, (∀ a : Nat, a < 214 → K a = J a) ∧ oSt K Q s k tp (vAsh s f) (tAsh s f) := by
  obtain ⟨c0, hv, hd, hrel⟩ := St_c0 S
  have hA := S.2.2.2.1
  obtain ⟨i1, i2, c3⟩ := sho_iff (f := f) S.1
  have e5 := S.2.1
  rw [e5] at i1 c3
  have i3 : qMShotOf I f = qMShotOf (gh s) f := qMS_eq e5.symm f |>.symm
  rw [e5, i3] at i2
  have hq : qXAddShot I f = vAsh s f := by
    unfold qXAddShot vAsh qMAddShot
    rw [c3] at i1 ⊢
    by_cases z : 1 ≤ f ∧ f ≤ 3000
    · rw [if_pos z, if_pos z]
      by_cases y : hasS s f
      · rw [if_pos (i1.mpr y), if_pos (fun q => (i2.mp q) y)]
      · rw [if_neg (fun q => y (i1.mp q)), if_neg (c := qMShotOf (gh s) f ≠ -19) (fun q => q (i2.mpr y))]
    · rw [if_neg z, if_neg z]
  refine ⟨hq, ?_⟩
  rw [← hq]
  have o1 := hv.1.2.1
  by_cases ok : (1 ≤ f ∧ f ≤ 3000) ∧ ¬ xShotOf I 1 f < I 1 3 ∧ I 1 3 ≠ 10
  · obtain ⟨M, N, r, hJ, hQ⟩ := xAct_yes h ok
    obtain ⟨n1, n2, n3, n4, n5⟩ := rec_now S.1 r
    rw [e5] at n1
    have jo : ∀ a : Nat, (a < 1 ∨ 31 ≤ a) → J a = M a := fun a ha => by rw [hJ]; exact xIns_o (sc := 1) ha
    have hno : ¬ hasS s f := fun z => ok.2.1 (i1.mpr z)
    subst hQ
    refine oSt_yes ?_ (ac_St S hk r (fun a ha => jo a (by omega)) (by rw [jo 0 (by decide)]) (fun _ _ => rfl) n4 (t := rShot s f) ?_ (sAs_shot hA o1.1 hno))
    · unfold qXAddShot
      rw [if_pos ok.1, if_neg ok.2.1, if_neg ok.2.2]
      omega
    · rw [hJ]
      exact ⟨Rel_shot (sc := 1) n1.1 n1.2.1 fSc_1 (n4 1 fSc_1) (by omega), mOkr_shot n1.2.1 (by omega) ok.1, sDi_shot n1.2.2 o1.1 hno⟩
  · obtain ⟨rfl, rfl⟩ := xAct_no h ok
    refine oSt_no S ?_
    unfold qXAddShot
    by_cases z : 1 ≤ f ∧ f ≤ 3000
    · rw [if_pos z]
      by_cases y : xShotOf J 1 f < J 1 3
      · rw [if_pos y]; decide
      · rw [if_neg y, if_pos (Classical.byContradiction fun q => ok ⟨z, y, q⟩)]; decide
    · rw [if_neg z]; decide
/-- removeShot -/
noncomputable def vRsh (s : Int → Int) (f : Int) : Int := qMRemShot (gh s) f
noncomputable def tRsh (s : Int → Int) (f : Int) : Int → Int := nrm (rDel s (sF (fun i => s (3 + i) = f) 0 (s 1)))
theorem g_rsh {I J : fM} {P Q : fN} {s : Int → Int} {k : Nat} {tp : Nat → Int → Int} {f : Int} (S : St I P s k tp) (hk : k ≤ 4) (h : xAct I P J Q ((1 ≤ f ∧ f ≤ 3000) ∧ xShotOf I 1 f < I 1 3) (fun M N => J = xDelS M (xShotOf I 1 f) ∧ Q = N)) : qXRemShot I f = vRsh s f ∧ ∃ K : fM, (∀ a : Nat, a < 214 → K a = J a) ∧ oSt K Q s k tp (vRsh s f) (tRsh s f) := by
  obtain ⟨c0, hv, hd, hrel⟩ := St_c0 S
  have hA := S.2.2.2.1
  obtain ⟨i1, i2, c3⟩ := sho_iff (f := f) S.1
  have e5 := S.2.1
  rw [e5] at i1 c3
  have i3 : qMShotOf I f = qMShotOf (gh s) f := qMS_eq e5.symm f |>.symm
  rw [e5, i3] at i2
  have hq : qXRemShot I f = vRsh s f := by
    unfold qXRemShot vRsh qMRemShot
    by_cases z : 1 ≤ f ∧ f ≤ 3000
    · rw [if_pos z, if_pos z]
      by_cases y : hasS s f
      · rw [if_pos (i1.mpr y), if_neg (fun q => (i2.mp q) y), c3]
      · rw [if_neg (fun q => y (i1.mp q)), if_pos (i2.mpr y)]
    · rw [if_neg z, if_neg z]
  refine ⟨hq, ?_⟩
  rw [← hq]
  have o1 := hv.1.2.1
  by_cases ok : (1 ≤ f ∧ f ≤ 3000) ∧ xShotOf I 1 f < I 1 3
  · obtain ⟨M, N, r, hJ, hQ⟩ := xAct_yes h ok
    obtain ⟨n1, n2, n3, n4, n5⟩ := rec_now S.1 r
    rw [e5] at n1
    have jo : ∀ a : Nat, a ≠ 1 → a ≠ 3 → J a = M a := fun a h1 h3 => by
      rw [hJ]
      unfold xDelS
      rw [fup_ne h1, fcpy_ne h3]
    have eq : xShotOf I 1 f = sF (fun i => s (3 + i) = f) 0 (s 1) := by
      unfold xShotOf
      rw [c3]
      exact sF_c (fun i i0 i1 => by rw [← hrel.2.2.2.1 i i0 i1])
    have q0 : 0 ≤ xShotOf I 1 f := by rw [eq]; exact (sF_is o1.1).1.1
    have q1 : xShotOf I 1 f < s 1 := by rw [← c3]; exact ok.2
    subst hQ
    refine oSt_yes ?_ (ac_St S hk r (fun a ha => jo a (by omega) (by omega)) (by rw [jo 0 (by decide) (by decide)]) (fun _ _ => rfl) n4 (t := rDel s (sF (fun i => s (3 + i) = f) 0 (s 1))) ?_ ?_)
    · unfold qXRemShot
      rw [if_pos ok.1, if_pos ok.2]
      omega
    · rw [hJ, ← eq]
      exact rDel_k n1 (n4 1 fSc_1) q0 q1
    · rw [← eq]
      generalize xShotOf I 1 f = q at q0 q1
      have e1 : rDel s q 1 = s 1 - 1 := by
        unfold rDel
        rw [if_neg (by omega), if_pos rfl]
      have sh : ∀ i : Int, 0 ≤ i → i < s 1 - 1 → rDel s q (3 + i) = s (3 + (if q ≤ i then i + 1 else i)) := fun i i0 i1 => by
        unfold rDel
        by_cases z : q ≤ i
        · rw [if_pos (by omega), if_pos z]
          congr 1
          omega
        · rw [if_neg (by omega), if_neg (by omega), if_neg z]
      intro i j i0 ij j1
      rw [e1] at j1
      rw [sh i i0 (by omega), sh j (by omega) j1]
      exact hA _ _ (by split <;> omega) (by (repeat' split) <;> omega) (by split <;> omega)
  · obtain ⟨rfl, rfl⟩ := xAct_no h ok
    refine oSt_no S ?_
    unfold qXRemShot
    by_cases z : 1 ≤ f ∧ f ≤ 3000
    · rw [if_pos z, if_neg (fun y => ok ⟨z, y⟩)]; decide
    · rw [if_neg z]; decide
/-- setSpeed -/
def vSpd (s : Int → Int) (x : Int) : Int := if 50 ≤ x ∧ x ≤ 400 then s 2 else -11
def tSpd (s : Int → Int) (x : Int) : Int → Int := nrm (rsv s 2 x)
theorem g_spd {I J : fM} {P Q : fN} {s : Int → Int} {k : Nat} {tp : Nat → Int → Int} {x : Int} (S : St I P s k tp) (hk : k ≤ 4) (h : xAct I P J Q (50 ≤ x ∧ x ≤ 400) (fun M N => J = fup M 1 4 x ∧ Q = N)) : qXSpeed I x = vSpd s x ∧ ∃ K : fM, (∀ a : Nat, a < 214 → K a = J a) ∧ oSt K Q s k tp (vSpd s x) (tSpd s x) := by
  obtain ⟨c0, hv, hd0, hrel⟩ := St_c0 S
  have hA := S.2.2.2.1
  refine ⟨by unfold qXSpeed vSpd; rw [hrel.2.2.1], ?_⟩
  have o1 := hv.1.2.1
  by_cases ok : 50 ≤ x ∧ x ≤ 400
  · obtain ⟨M, N, r, hJ, hQ⟩ := xAct_yes h ok
    obtain ⟨n1, n2, n3, n4, n5⟩ := rec_now S.1 r
    rw [S.2.1] at n1
    obtain ⟨⟨r1, r2, r3, r4, r5⟩, ⟨⟨o1, o2, o3, o4⟩, o5⟩, hd⟩ := n1
    have jo : ∀ a : Nat, a ≠ 1 → J a = M a := fun a ha => by rw [hJ]; exact fup_ne ha
    have hp := n4 1 fSc_1
    subst hQ
    have ro : ∀ b : Int, b ≠ 2 → rsv s 2 x b = s b := fun b hb => rsv_n hb
    refine oSt_yes (by unfold vSpd; rw [if_pos ok]; omega) (ac_St S hk r (fun a ha => jo a (by omega)) (by rw [jo 0 (by decide)]) (fun _ _ => rfl) n4 (t := rsv s 2 x) ?_ (sAs_lo hA (ro 1 (by decide)) (fun i i0 i1 => ro _ (by omega))))
    refine ⟨⟨?_, ?_, ?_, fun i i0 i1 => ?_, fun v v0 v1 => ?_⟩, ⟨⟨by rw [ro 0 (by decide)]; exact o1, by rw [ro 1 (by decide)]; exact o2, by rw [rsv_s]; exact ok, fun i i0 i1 => by rw [ro 1 (by decide)] at i1; rw [ro (3 + i) (by omega)]; exact o4 i i0 i1⟩, fun v v0 v1 => by rw [ro 0 (by decide)] at v1; exact mWv_c (fun q q0 q1 => ro _ (by omega)) (o5 v v0 v1)⟩, sDi_lo hd (ro 1 (by decide)) (fun i i0 i1 => ro _ (by omega))⟩
    · rw [hJ, fup_j (by decide), ro 0 (by decide)]; exact r1
    · rw [hJ, fup_j (by decide), ro 1 (by decide)]; exact r2
    · rw [hJ, fup_s, rsv_s]
    · rw [ro 1 (by decide)] at i1
      rw [jo (1 + 2) (by decide), ro (3 + i) (by omega)]
      exact r4 i i0 i1
    · rw [ro 0 (by decide)] at v1
      obtain ⟨j, hj, ej⟩ := hp.1 v v0 (by omega)
      rw [jo _ (by omega), jo _ (by omega)]
      exact wRel_c (fun q q0 q1 => ro _ (by omega)) (o5 v v0 v1).1.2 (r5 v v0 v1)
  · obtain ⟨rfl, rfl⟩ := xAct_no h ok
    refine oSt_no S ?_
    unfold vSpd
    rw [if_neg ok]; decide
