/-! OPS 2: take, put, putAll, load, earliest, the reads -/
theorem sSum_ge {g : Int → Int} {n w : Int} (hg : ∀ i, 0 ≤ i → i < n → 0 ≤ g i) (w0 : 0 ≤ w) (w1 : w < n) : g w ≤ sSum g n := by
  have key : ∀ k : Nat, (k : Int) ≤ n → 0 ≤ sSum g k ∧ (w < k → g w ≤ sSum g k) := by
    intro k
    induction k with
    | zero => intro _; exact ⟨Int.le_refl _, fun z => absurd z (by omega)⟩
    | succ k ih =>
      intro hk
      have e : sSum g ((k + 1 : Nat) : Int) = sSum g k + g k := by rw [Int.natCast_succ]; exact sSum_s (by omega)
      have h0 := hg k (by omega) (by omega)
      have h1 := ih (by omega)
      rw [e]
      refine ⟨by omega, fun z => ?_⟩
      by_cases y : w = k
      · rw [y]; omega
      · have := h1.2 (by omega); omega
  have := (key n.toNat (by omega)).2 (by omega)
  rw [show ((n.toNat : Nat) : Int) = n by omega] at this
  exact this
theorem sSum_le {g h : Int → Int} {n : Int} (e : ∀ i, 0 ≤ i → i < n → g i ≤ h i) : sSum g n ≤ sSum h n := by
  have key : ∀ k : Nat, (k : Int) ≤ n → sSum g k ≤ sSum h k := by
    intro k
    induction k with
    | zero => intro _; exact Int.le_refl _
    | succ k ih =>
      intro hk
      have e1 : sSum g ((k + 1 : Nat) : Int) = sSum g k + g k := by rw [Int.natCast_succ]; exact sSum_s (by omega)
      have e2 : sSum h ((k + 1 : Nat) : Int) = sSum h k + h k := by rw [Int.natCast_succ]; exact sSum_s (by omega)
      have a := ih (by omega)
      have b := e k (by omega) (by omega)
      omega
  rcases Int.lt_or_le n 0 with q | q
  · unfold sSum
    rw [show n.toNat = 0 by omega]
    exact Int.le_refl _
  · have := key n.toNat (by omega)
    rw [show ((n.toNat : Nat) : Int) = n by omega] at this
    exact this
theorem mCnt_b {s : Int → Int} (h : 0 ≤ s 0) : 0 ≤ mCnt s ∧ mCnt s ≤ s 0 := by
  unfold mCnt
  exact sSum_bi (fun i => by split <;> omega) h
theorem mCnt_p {s : Int → Int} {w : Int} (w0 : 0 ≤ w) (w1 : w < s 0) (h : s (13 + 19 * w + 4) ≠ -1) : 1 ≤ mCnt s := by
  have := sSum_ge (g := fun i => if s (13 + 19 * i + 4) ≠ -1 then 1 else 0) (n := s 0) (w := w) (fun i _ _ => by (try dsimp only); split <;> omega) w0 w1
  (try dsimp only at this)
  rw [if_pos h] at this
  exact this
/-- take -/
def vTak (s : Int → Int) (w : Int) : Int := if 0 ≤ w ∧ w < s 0 then (if s (13 + 19 * w + 4) = -1 then -12 else mCnt (rOff s w)) else -11
def tTak (s : Int → Int) (w : Int) : Int → Int := nrm (rOff s w)
theorem rOff_o {s : Int → Int} {w b : Int} (h4 : b ≠ 13 + 19 * w + 4) (h5 : b ≠ 13 + 19 * w + 5) : rOff s w b = s b := rLay_o h4 h5
theorem g_tak {I J : fM} {P Q : fN} {s : Int → Int} {k : Nat} {tp : Nat → Int → Int} {w : Int} (S : St I P s k tp) (hk : k ≤ 4) (h : xAct I P J Q ((0 ≤ w ∧ w < I 1 1) ∧ I (P 2 w) 6 = 1) (fun M N => J = fup M (N 2 w) 6 0 ∧ Q = N)) : (if 0 ≤ w ∧ w < I 1 1 then (if I (P 2 w) 6 = 1 then xCnt J Q else -12) else -11) = vTak s w ∧ ∃ K : fM, (∀ a : Nat, a < 214 → K a = J a) ∧ oSt K Q s k tp (vTak s w) (tTak s w) := by
  obtain ⟨c0, hvv, hd, hrel⟩ := St_c0 S
  have hA := S.2.2.2.1
  have b0 := hvv.1.1
  have h10 := hvv.1.2.1
  by_cases ok : (0 ≤ w ∧ w < I 1 1) ∧ I (P 2 w) 6 = 1
  · obtain ⟨M, N, r, hJ, hQ⟩ := xAct_yes h ok
    subst hQ
    have w1 : w < s 0 := by omega
    have hv := hvv.2 w ok.1.1 w1
    have h4 : s (13 + 19 * w + 4) ≠ -1 := by
      have k6 := (Rel_pl hrel ok.1.1 w1).2.2.2.2.2
      dsimp only at k6
      have ok2 : I (P (1 + 1) w) 6 = 1 := ok.2
      omega
    obtain ⟨now, jm⟩ := upd_now (J := J) (t := rOff s w) S.1 S.2.1 r ok.1.1 w1 (fun a ha => by rw [hJ, fup_ne ha]) (fun b hb => rLay_o (by omega) (by omega)) (fun k => wRel_lay k (fun b h6 _ _ => by rw [hJ, fup_j h6]) (Or.inl ⟨by rw [hJ, fup_s], rfl⟩) hv.1.2) (rLay_wv hv (Or.inl ⟨rfl, rfl⟩))
    have ev : vTak s w = mCnt (rOff s w) := by
      unfold vTak
      rw [if_pos ⟨ok.1.1, w1⟩, if_neg h4]
    have e0 : rOff s w 0 = s 0 := rOff_o (by omega) (by omega)
    refine ⟨?_, oSt_yes ?_ (ac_St S hk r (fun a ha => jm a (by omega)) (by rw [jm 0 (by omega)]) (fun _ _ => rfl) (rec_now S.1 r).2.2.2.1 now (sAs_lo hA (rOff_o (by omega) (by omega)) (fun i i0 i1 => rOff_o (by omega) (by omega))))⟩
    · rw [if_pos ok.1, if_pos ok.2, ev]
      exact cnt_row now.1
    · rw [ev]
      have := mCnt_b (s := rOff s w) (by omega)
      omega
  · obtain ⟨rfl, rfl⟩ := xAct_no h ok
    have e : (if 0 ≤ w ∧ w < J 1 1 then (if J (Q 2 w) 6 = 1 then xCnt J Q else -12) else -11) = vTak s w ∧ vTak s w ≤ -11 := by
      unfold vTak
      rw [c0]
      by_cases z : 0 ≤ w ∧ w < s 0
      · have k6 := (Rel_pl hrel z.1 z.2).2.2.2.2.2
        dsimp only at k6
        have hn : ¬ J (Q (1 + 1) w) 6 = 1 := fun y => ok ⟨by rw [c0]; exact z, y⟩
        have h4 : s (13 + 19 * w + 4) = -1 := by omega
        have hn : ¬ J (Q 2 w) 6 = 1 := hn
        rw [if_pos z, if_pos z, if_neg hn, if_pos h4]
        exact ⟨rfl, by decide⟩
      · rw [if_neg z, if_neg z]
        exact ⟨rfl, by decide⟩
    exact ⟨e.1, oSt_no S e.2⟩
/-- put -/
noncomputable def vPut (s : Int → Int) (w la co : Int) : Int := if mPl (gh s) w la co then (if mMA (rLay s w la co) w = false then mCnt (rLay s w la co) else -12) else -11
def tPut (s : Int → Int) (w la co : Int) : Int → Int := nrm (rLay s w la co)
theorem g_pl {I : fM} {P : fN} {s : Int → Int} {k : Nat} {tp : Nat → Int → Int} {w la co : Int} (S : St I P s k tp) : xPl I P w la co ↔ mPl (gh s) w la co := by
  have h := pl_iff (w := w) (la := la) (co := co) S.1 (J := I) rfl
  refine h.trans ?_
  show (0 ≤ w ∧ w < I 215 0) ∧ (0 ≤ la ∧ la ≤ 7) ∧ 0 ≤ co ∧ co + I 215 (13 + 19 * w + 6) ≤ 40 ↔ (0 ≤ w ∧ w < s 0) ∧ (0 ≤ la ∧ la ≤ 7) ∧ 0 ≤ co ∧ co + s (13 + 19 * w + 6) ≤ 40
  rw [S.2.1]
theorem g_put {I J : fM} {P Q : fN} {s : Int → Int} {k : Nat} {tp : Nat → Int → Int} {w la co : Int} {v : Option Value} (S : St I P s k tp) (hk : k ≤ 4) (h : (xPl I P w la co ∧ xFree I P 1 w (I (P 2 w) 2) la co ∧ v = some (.int (i32 (xCnt J Q))) ∧ ∃ I2 M N, tEq I I2 1 ∧ xRec I2 P M N ∧ J = xPutM M (N 2 w) la co ∧ Q = N) ∨ (xPl I P w la co ∧ ¬ xFree I P 1 w (I (P 2 w) 2) la co ∧ v = some (.int (i32 (-12))) ∧ tEq I J 1 ∧ Q = P) ∨ (¬ xPl I P w la co ∧ v = some (.int (i32 (-11))) ∧ J = I ∧ Q = P)) : v = some (.int (i32 (vPut s w la co))) ∧ ∃ K : fM, (∀ a : Nat, a < 214 → K a = J a) ∧ oSt K Q s k tp (vPut s w la co) (tPut s w la co) := by
  obtain ⟨c0, hvv, hd, hrel⟩ := St_c0 S
  have hA := S.2.2.2.1
  have b0 := hvv.1.1
  have h10 := hvv.1.2.1
  have e5 := S.2.1
  have fp : mPl (gh s) w la co → (xFree I P 1 w (I (P 2 w) 2) la co ↔ mMA (rLay s w la co) w = false) := fun hm => by
    have hm2 := (pl_iff (w := w) (la := la) (co := co) S.1 (J := I) rfl).mp ((g_pl S).mpr hm)
    have := free_put S.1 hm2
    rw [e5] at this
    exact this
  rcases h with ⟨hpl, hfr, hv, I2, M, N, hI2, r, hJ, rfl⟩ | ⟨hpl, hfr, hv, hJ, rfl⟩ | ⟨hpl, hv, rfl, rfl⟩
  · have S2 : St I2 P s k tp := St_q S (Sim_k S.1 (kEq_t hI2) (rEq_t hI2)) (fun a ha => hI2 a (by omega) (by omega))
    have hm := (g_pl S).mp hpl
    have hfr2 := (fp hm).mp hfr
    have hm1 : 0 ≤ w ∧ w < s 0 := hm.1
    have hm3 : 0 ≤ co ∧ co + s (13 + 19 * w + 6) ≤ 40 := hm.2.2
    have vv := hvv.2 w hm1.1 hm1.2
    obtain ⟨now, jm⟩ := upd_now (J := J) (t := rLay s w la co) S2.1 S2.2.1 r hm1.1 hm1.2 (fun a ha => by
      rw [hJ]
      unfold xPutM
      rw [fup_ne ha, fup_ne ha, fup_ne ha]) (fun b hb => rLay_o (by omega) (by omega)) (fun k => by
      refine wRel_lay k (fun b h6 h7 h8 => ?_) (Or.inr ⟨?_, by have := hm.2.1; omega, ?_, ?_⟩) vv.1.2
      · rw [hJ]; unfold xPutM; rw [fup_j h8, fup_j h7, fup_j h6]
      · rw [hJ]; unfold xPutM; rw [fup_j (by decide), fup_j (by decide), fup_s]
      · rw [hJ]; unfold xPutM; rw [fup_j (by decide), fup_s]
      · rw [hJ]; unfold xPutM; rw [fup_s]) (rLay_wv vv (Or.inr ⟨hm.2.1, hm3⟩))
    have ev : vPut s w la co = mCnt (rLay s w la co) := by
      unfold vPut
      rw [if_pos hm, if_pos hfr2]
    have e0 : rLay s w la co 0 = s 0 := rLay_o (by omega) (by omega)
    refine ⟨?_, oSt_yes ?_ (ac_St S2 hk r (fun a ha => jm a (by omega)) (by rw [jm 0 (by omega)]) (fun _ _ => rfl) (rec_now S2.1 r).2.2.2.1 now (sAs_lo hA (rLay_o (by omega) (by omega)) (fun i i0 i1 => rLay_o (by omega) (by omega))))⟩
    · rw [hv, ev, cnt_row now.1]
    · rw [ev]
      have := mCnt_b (s := rLay s w la co) (by omega)
      omega
  · have hm := (g_pl S).mp hpl
    have ev : vPut s w la co = -12 := by
      unfold vPut
      rw [if_pos hm, if_neg (fun z => hfr ((fp hm).mpr z))]
    have SJ : St J Q s k tp := St_q S (Sim_k S.1 (kEq_t hJ) (rEq_t hJ)) (fun a ha => hJ a (by omega) (by omega))
    exact ⟨by rw [hv, ev], oSt_no SJ (by rw [ev]; decide)⟩
  · have ev : vPut s w la co = -11 := by
      unfold vPut
      rw [if_neg (fun z => hpl ((g_pl S).mpr z))]
    exact ⟨by rw [hv, ev], oSt_no S (by rw [ev]; decide)⟩
/-- putAll -/
theorem sOrd_un {len fi o o2 : Int → Int} {n : Int} (h : sOrd len fi n o) (h2 : sOrd len fi n o2) : ∀ i : Nat, (i : Int) < n → o i = o2 i := by
  intro i
  induction i using Nat.strongRecOn with
  | _ i ih =>
    intro hi
    have b := h.1 i (by omega) hi
    have b2 := h2.1 i (by omega) hi
    obtain ⟨j, hj, ej⟩ := sOrd_sur h2 b.1 b.2
    obtain ⟨q, hq, eq⟩ := sOrd_sur h b2.1 b2.2
    have lj : (i : Int) ≤ j := Int.not_lt.mp (fun z => by
      have e := ih j.toNat (by omega) (by omega)
      rw [show ((j.toNat : Nat) : Int) = j by omega, ej] at e
      have := sOrd_inj h hj.1 hj.2 (by omega) hi e
      omega)
    have lq : (i : Int) ≤ q := Int.not_lt.mp (fun z => by
      have e := ih q.toNat (by omega) (by omega)
      rw [show ((q.toNat : Nat) : Int) = q by omega, eq] at e
      have := sOrd_inj h2 hq.1 hq.2 (by omega) hi e.symm
      omega)
    by_cases z : j = i
    · rw [← ej, z]
    · by_cases y : q = i
      · rw [← eq, y]
      · have a1 := h2.2 i j (by omega) (by omega) hj.2
        have a2 := h.2 i q (by omega) (by omega) hq.2
        rw [ej] at a1
        rw [eq] at a2
        exact absurd a1 (sAhead_no a2)
theorem rPutN_oc {s o o2 : Int → Int} : ∀ n : Nat, (∀ i : Nat, i < n → o i = o2 i) → rPutN s o n = rPutN s o2 n := by
  intro n
  induction n with
  | zero => intro _; rfl
  | succ n ih =>
    intro h
    show rPlace (rPutN s o n) (o n) = rPlace (rPutN s o2 n) (o2 n)
    rw [ih (fun i hi => h i (by omega)), h n (by omega)]
noncomputable def oOf (s : Int → Int) : Int → Int := Classical.epsilon (fun o : Int → Int => sOrd (fun w => s (13 + 19 * w + 6)) (fun w => s (13 + 19 * w + 0)) (s 0) o)
noncomputable def rPal (s : Int → Int) : Int → Int := rPutN (rOffN s (s 0).toNat) (oOf s) (s 0).toNat
noncomputable def vPal (s : Int → Int) : Int := mCnt (rPal s)
noncomputable def tPal (s : Int → Int) : Int → Int := nrm (rPal s)
theorem rPal_o {s o : Int → Int} (h : sOrd (fun w => s (13 + 19 * w + 6)) (fun w => s (13 + 19 * w + 0)) (s 0) o) : rPutN (rOffN s (s 0).toNat) o (s 0).toNat = rPal s := by
  have k : sOrd (fun w => s (13 + 19 * w + 6)) (fun w => s (13 + 19 * w + 0)) (s 0) (oOf s) := Classical.epsilon_spec (p := fun o : Int → Int => sOrd (fun w => s (13 + 19 * w + 6)) (fun w => s (13 + 19 * w + 0)) (s 0) o) ⟨o, h⟩
  exact rPutN_oc _ (fun i hi => sOrd_un h k i (by omega))
theorem g_pal {I J : fM} {P Q : fN} {s : Int → Int} {k : Nat} {tp : Nat → Int → Int} {v : Option Value} (S : St I P s k tp) (hk : k ≤ 4) (h : v = some (.int (i32 (xCnt J Q))) ∧ ∃ M N o, xRec I P M N ∧ sOrd (fun w => I (P 2 w) 1) (fun w => I (P 2 w) 2) (I 1 1) o ∧ xEq (xPutN (xTake M N 1 (I 1 1)) N o (I 1 1).toNat) J ∧ Q = N) : v = some (.int (i32 (vPal s))) ∧ ((-11 < vPal s ∧ ∃ o : Int → Int, sOrd (fun w => s (13 + 19 * w + 6)) (fun w => s (13 + 19 * w + 0)) (s 0) o) ∧ ∃ K : fM, (∀ a : Nat, a < 214 → K a = J a) ∧ oSt K Q s k tp (vPal s) (tPal s)) := by
  obtain ⟨c0, hvv, hd, hrel⟩ := St_c0 S
  have hA := S.2.2.2.1
  obtain ⟨hv, M, N, o, r, ho, hx, rfl⟩ := h
  obtain ⟨n1, n2, n3, n4, n5⟩ := rec_now S.1 r
  rw [S.2.1] at n1
  have hp := n4 1 fSc_1
  rw [c0] at ho hx
  have b0 := n1.2.1.1.1
  have hO : sOrd (fun w => s (13 + 19 * w + 6)) (fun w => s (13 + 19 * w + 0)) (s 0) o := by
    refine sOrd_c (fun w w0 w1 => ?_) ho
    have k := Rel_pl hrel w0 w1
    exact ⟨k.1, k.2.1⟩
  have tk := take_rel n1.1 n1.2.1 hp (s 0).toNat (by omega)
  rw [show (((s 0).toNat : Nat) : Int) = s 0 by omega] at tk
  have hv2 := rOffN_ok n1.2.1 (s 0).toNat
  have ro : ∀ b : Int, b < 13 → 0 ≤ b → rOffN s (s 0).toNat b = s b := fun b b1 b2 => rOffN_o _ (fun w w0 w1 => by omega)
  have e0 : rOffN s (s 0).toNat 0 = s 0 := ro 0 (by decide) (by decide)
  have pn := putN_rel tk hv2 hp (o := o) (len := fun w => s (13 + 19 * w + 6)) (fi := fun w => s (13 + 19 * w + 0)) (by rw [e0]; exact hO) (fun w w0 w1 => by
    rw [e0] at w1
    unfold xTake
    exact @if_pos _ (Classical.propDecidable _) ⟨rfl, w, w0, w1, rfl⟩ _ _ _) (s 0).toNat (by omega)
  obtain ⟨t, ht⟩ : ∃ t, t = rPutN (rOffN s (s 0).toNat) o (s 0).toNat := ⟨_, rfl⟩
  have hv3 : mOkr t := by rw [ht]; exact rPutN_ok hv2 (fun i i0 i1 => (hO.1 i i0 (by omega)).1) _ (Nat.le_refl _)
  have to : ∀ b : Int, b < 13 → 0 ≤ b → t b = s b := fun b b1 b2 => by
    rw [ht, rPutN_o (fun w => by omega)]
    exact ro b b1 b2
  have hd3 : sDi t := sDi_lo n1.2.2 (to 1 (by decide) (by decide)) (fun i i0 i1 => to _ (by have := n1.2.1.1.2.1; omega) (by omega))
  have xto : ∀ a : Nat, (a < 7 ∨ 31 ≤ a) → xTake M Q 1 (s 0) a = M a := fun a ha => by
    funext b
    refine xTake_o (fun w w0 w1 z => ?_)
    obtain ⟨j, hj, ej⟩ := hp.1 w w0 (by omega)
    omega
  have jm : ∀ a : Nat, (a = 0 ∨ 31 ≤ a) → J a = M a := fun a ha => by
    rw [hx a (by omega) (by omega) (by omega), pn.2.2 a (by omega), xto a (by omega)]
  have relJ : Rel J Q 1 t := by
    rw [ht]
    refine Rel_eq hp rfl ?_ (hx 1 (by decide) (by decide) (by decide)) (hx 3 (by decide) (by decide) (by decide)) (fun a a0 a1 => hx a (by omega) (by omega) (by omega)) pn.1
    rw [← ht]
    exact hv3.1.1.2
  have et : t = rPal s := ht.trans (rPal_o hO)
  subst et
  have hc := mCnt_b hv3.1.1.1
  have hgt : -11 < vPal s := by unfold vPal; omega
  refine ⟨by rw [hv, cnt_row relJ]; rfl, ⟨hgt, o, hO⟩, oSt_yes hgt (ac_St S hk r (fun a ha => jm a (by omega)) (by rw [jm 0 (by omega)]) (fun _ _ => rfl) n4 ⟨relJ, hv3, hd3⟩ (sAs_lo hA (to 1 (by decide) (by decide)) (fun i i0 i1 => to _ (by have := n1.2.1.1.2.1; omega) (by omega))))⟩
/-- load, where there is no text -/
theorem pLoad_0 {T s : Int → Int} : pLoad T 0 23 s 0 0 = (0, s) := by
  have e : tK T 0 0 = 0 := (tK_0 (Int.le_refl 0)).mpr (by have := tS_b (T := T) (n := 0) (e := 0) (Int.le_refl 0); omega)
  show (if tK T 0 0 = 0 then (0, s) else _) = (0, s)
  rw [if_pos e]
theorem g_load {I J : fM} {P Q : fN} {s : Int → Int} {k : Nat} {tp : Nat → Int → Int} {v : Option Value} (S : St I P s k tp) (hk : k ≤ 4) (h : v = some (.int (i32 (pLoad (I 213) (I 212 1) 23 s 0 0).1)) ∧ (((pLoad (I 213) (I 212 1) 23 s 0 0).1 < 0 ∧ oEq I J 31 ∧ Q = P) ∨ (0 ≤ (pLoad (I 213) (I 212 1) 23 s 0 0).1 ∧ ∃ I2 M, oEq I I2 31 ∧ xRec I2 P M Q ∧ Rel J Q 1 (pLoad (I 213) (I 212 1) 23 s 0 0).2 ∧ mOkr (pLoad (I 213) (I 212 1) 23 s 0 0).2 ∧ sDi (pLoad (I 213) (I 212 1) 23 s 0 0).2 ∧ J 212 1 = 0 ∧ (∀ a : Nat, a ≠ 212 → (a < 1 ∨ 31 ≤ a) → J a = M a) ∧ ∀ b : Int, b ≠ 1 → J 212 b = M 212 b))) : v = some (.int (i32 0)) ∧ ∃ K : fM, (∀ a : Nat, a < 214 → K a = J a) ∧ St K Q s (k + 1) (tcons s tp) := by
  have ht := S.2.2.2.2.1
  rw [ht, pLoad_0] at h
  obtain ⟨hv, h⟩ := h
  refine ⟨hv, ?_⟩
  rcases h with ⟨h0, -⟩ | ⟨-, I2, M, hI2, r, hr, hm, hd, hj1, hjo, hj2⟩
  · exact absurd (show (0 : Int) < 0 from h0) (by decide)
  · have S2' := Sim_k S.1 (kEq_d hI2) (rEq_d hI2)
    have e12 : I2 212 1 = 0 := by rw [hI2.2 1 (by decide) (by decide) (by decide)]; exact ht
    have o : ∀ a : Nat, (a = 0 ∨ 62 ≤ a) → a ≠ 212 → I2 a = I a := fun a ha h2 => hI2.1 a (by omega) (by omega)
    have S2 : St I2 P s k tp := by
      obtain ⟨S0, hs, hn, hA, -, hh, hkn, htp⟩ := S
      have e0 := o 0 (by omega) (by decide)
      have e7 := o 217 (by omega) (by decide)
      refine ⟨S2', by rw [o 215 (by omega) (by decide)]; exact hs, hn, hA, e12, fun g g0 g1 => ?_, by rw [e0]; exact hkn, fun i hi => ?_⟩
      · rw [e0] at g1
        show sAs (fun b => I2 217 (241 * g + b))
        rw [e7]
        exact hh g g0 g1
      · rw [htp i hi]
        unfold hTop
        show nrm (fun b => I 217 (241 * (I 0 3 - 1 - (i : Int)) + b)) = nrm (fun b => I2 217 (241 * (I2 0 3 - 1 - (i : Int)) + b))
        rw [e0, e7]
    obtain ⟨n1, n2, n3, n4, n5⟩ := rec_now S2.1 r
    have em : M 212 1 = 0 := by rw [n2 212 (by decide) (by omega)]; exact e12
    have e2 : J 212 = M 212 := by
      funext b
      by_cases z : b = 1
      · rw [z, hj1, em]
      · exact hj2 b z
    have jm : ∀ a : Nat, (a < 1 ∨ 31 ≤ a) → J a = M a := fun a ha => by
      by_cases z : a = 212
      · rw [z]; exact e2
      · exact hjo a z ha
    have key := ac_St S2 hk r (fun a ha => jm a (by omega)) (by rw [jm 0 (by omega)]) (fun _ _ => rfl) n4 (t := s) ⟨hr, hm, hd⟩ S.2.2.2.1
    rw [S.2.2.1] at key
    exact key
/-- earliest -/
noncomputable def vEar (s : Int → Int) (w la co : Int) : Int := qMEar (gh s) w la co
theorem g_ear {I J : fM} {P Q : fN} {s : Int → Int} {k : Nat} {tp : Nat → Int → Int} {w la co : Int} {v : Option Value} (S : St I P s k tp) (h : v = some (.int (i32 (qXEar I P w la co))) ∧ tEq I J 1 ∧ Q = P) : v = some (.int (i32 (vEar s w la co))) ∧ St J Q s k tp := by
  obtain ⟨hv, hJ, rfl⟩ := h
  obtain ⟨c0, hvv, hd, hrel⟩ := St_c0 S
  have SJ : St J Q s k tp := St_q S (Sim_k S.1 (kEq_t hJ) (rEq_t hJ)) (fun a ha => hJ a (by omega) (by omega))
  refine ⟨?_, SJ⟩
  rw [hv]
  have e : qXEar I Q w la co = vEar s w la co := by
    unfold qXEar vEar qMEar
    by_cases z : xPl I Q w la co
    · have hm := (g_pl S).mp z
      have hm1 : 0 ≤ w ∧ w < s 0 := hm.1
      have hm3 : 0 ≤ co ∧ co + s (13 + 19 * w + 6) ≤ 40 := hm.2.2
      rw [if_pos z, if_pos hm]
      have k2 := (Rel_pl hrel hm1.1 hm1.2).2.1
      have v2 := (hvv.2 w hm1.1 hm1.2).2.1
      dsimp only at k2 v2
      have k2 : I (Q 2 w) 2 = s (13 + 19 * w + 0) := k2
      have ef : xEarF I Q w la co = mEarF (gh s) w la co := by
        unfold xEarF mEarF
        rw [k2]
        exact sF_c (fun f f0 f1 => free_iff hrel hvv hm1.1 hm1.2 hm.2.1 hm3 (by omega))
      rw [ef]
    · rw [if_neg z, if_neg (fun y => z ((g_pl S).mpr y))]
  rw [e]
/-- reads -/
noncomputable def pairs (s : Int → Int) : Int := qMPairs (gh s)
noncomputable def vCnt (s : Int → Int) (what : Int) : Int := if what = 0 then s 0 else if what = 1 then mCnt s else if what = 2 then s 1 else if what = 3 then s 2 else if what = 4 then pairs s else -11
noncomputable def vWord (s : Int → Int) (w what : Int) : Int := qMWord (gh s) w what
def vLet (s : Int → Int) (w i : Int) : Int := qMLetter (gh s) w i
def vSho (s : Int → Int) (i : Int) : Int := qMShot (gh s) i
theorem g_pairs {I : fM} {P : fN} {s : Int → Int} {k : Nat} {tp : Nat → Int → Int} (S : St I P s k tp) : qXPairs I P 1 = pairs s := by
  obtain ⟨S0, hs, -⟩ := S
  rw [q_pairs S0.1.1 S0.1.2.1]
  unfold pairs qMPairs
  subst hs
  rfl
theorem g_count {I : fM} {P : fN} {s : Int → Int} {k : Nat} {tp : Nat → Int → Int} (S : St I P s k tp) {what : Int} (h5 : what ≠ 5) (h6 : what ≠ 6) : qXCount I P what = vCnt s what := by
  have hp := g_pairs S
  obtain ⟨S0, hs, -⟩ := S
  have c := cnt_row S0.1.1
  unfold xCnt at c
  obtain ⟨r1, r2, r3, -⟩ := S0.1.1
  subst hs
  unfold qXCount vCnt
  rw [if_neg (c := what = 5) h5, if_neg (c := what = 6) h6, hp, c, r1, r2, r3]
theorem g_word {I : fM} {P : fN} {s : Int → Int} {k : Nat} {tp : Nat → Int → Int} (S : St I P s k tp) (w what : Int) : qXWord I P w what = vWord s w what := by
  obtain ⟨S0, hs, -⟩ := S
  rw [e_word S0.1.1 S0.1.2.1]
  subst hs
  rfl
theorem g_letter {I : fM} {P : fN} {s : Int → Int} {k : Nat} {tp : Nat → Int → Int} (S : St I P s k tp) (w i : Int) : qXLetter I P w i = vLet s w i := by
  obtain ⟨S0, hs, -⟩ := S
  rw [e_letter S0.1.1 S0.1.2.1]
  subst hs
  rfl
theorem g_shot {I : fM} {P : fN} {s : Int → Int} {k : Nat} {tp : Nat → Int → Int} (S : St I P s k tp) (i : Int) : qXShot I i = vSho s i := by
  obtain ⟨S0, hs, -⟩ := S
  rw [e_shot S0.1.1 S0.1.2.1]
  subst hs
  rfl
