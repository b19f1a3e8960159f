/-! LAW: what its own checks rest on -/
noncomputable def dig (s : Int → Int) : Int := dF (vSho s) (dW (vWord s) (vLet s) (dF (vCnt s) 7 5) (s 0).toNat) 10
theorem dF_c {g g2 : Int → Int} {h : Int} : ∀ n : Nat, (∀ i : Nat, i < n → g i = g2 i) → dF g h n = dF g2 h n := by
  intro n
  induction n with
  | zero => intro _; rfl
  | succ n ih =>
    intro e
    show 31 * dF g h n + (i32 (g n)).toInt = 31 * dF g2 h n + (i32 (g2 n)).toInt
    rw [ih (fun i hi => e i (by omega)), e n (by omega)]
theorem digX_eq {I : fM} {P : fN} {s : Int → Int} {k : Nat} {tp : Nat → Int → Int} (S : St I P s k tp) : digX I P = dig s := by
  have e1 : qXShot I = vSho s := funext fun i => g_shot S i
  have e2 : qXWord I P = vWord s := funext fun w => funext fun q => g_word S w q
  have e3 : qXLetter I P = vLet s := funext fun w => funext fun q => g_letter S w q
  have e4 : dF (qXCount I P) 7 5 = dF (vCnt s) 7 5 := dF_c 5 (fun i hi => g_count S (by omega) (by omega))
  unfold digX dig
  rw [e1, e2, e3, e4, (St_c0 S).1]
theorem sSum_k {c : Int} : ∀ n : Nat, sSum (fun _ => c) n = c * n := by
  intro n
  induction n with
  | zero => rw [show ((0 : Nat) : Int) = 0 from rfl, Int.mul_zero]; rfl
  | succ n ih =>
    have e : sSum (fun _ => c) ((n + 1 : Nat) : Int) = sSum (fun _ => c) n + c := by rw [Int.natCast_succ]; exact sSum_s (by omega)
    rw [e, ih, Int.natCast_succ, Int.mul_add, Int.mul_one]
theorem pairs_b {s : Int → Int} (h : mOkr s) : 0 ≤ pairs s ∧ pairs s ≤ 144 := by
  have h0 := h.1.1
  have b : ∀ a : Int, 0 ≤ sSum (fun b => if a < b ∧ metR s a b ≠ -19 then 1 else 0) (s 0) ∧ sSum (fun b => if a < b ∧ metR s a b ≠ -19 then 1 else 0) (s 0) ≤ s 0 := fun a => sSum_bi (fun i => by (try dsimp only); split <;> omega) h0.1
  rw [pairs_eq]
  constructor
  · refine Int.le_trans ?_ (sSum_le (g := fun _ => 0) (fun a _ _ => (b a).1))
    rw [sSum_z h0.1 (fun _ _ _ => rfl)]
    exact Int.le_refl _
  · refine Int.le_trans (sSum_le (h := fun _ => 12) (fun a _ _ => Int.le_trans (b a).2 h0.2)) ?_
    have k := sSum_k (c := 12) (s 0).toNat
    rw [show (((s 0).toNat : Nat) : Int) = s 0 by omega] at k
    rw [k]
    omega
theorem vEar_b {s : Int → Int} {w la co : Int} (hv : mOkr s) : -19 ≤ vEar s w la co ∧ vEar s w la co ≤ 2001 := by
  unfold vEar qMEar
  by_cases z : mPl (gh s) w la co
  · rw [if_pos z]
    have hb := (hv.2 w z.1.1 z.1.2).2.1
    dsimp only at hb
    have k : isF (fun f => mMA (rTry s w f la co) w = false) (s (13 + 19 * w + 0)) 2001 (mEarF (gh s) w la co) := sF_is (by omega)
    have k1 := k.1
    split <;> omega
  · rw [if_neg z]
    omega
theorem vSet_b {s : Int → Int} {w what v : Int} (hv : mOkr s) : -11 ≤ vSet s w what v ∧ vSet s w what v ≤ 2000 := by
  unfold vSet
  by_cases z : (0 ≤ w ∧ w < s 0) ∧ sAllowed what v = true
  · rw [if_pos z]
    obtain ⟨v1, v2, v3, v4, v5, v6, v7, v8⟩ := hv.2 w z.1.1 z.1.2
    dsimp only at v1 v2 v3 v4 v5 v6 v7 v8
    rcases sAl_b z.2 with ⟨rfl, -⟩ | ⟨rfl, -⟩ | ⟨rfl, -⟩ | ⟨rfl, -⟩ <;> omega
  · rw [if_neg z]
    omega
theorem vPut_b {s : Int → Int} {w la co : Int} (hv : mOkr s) : -12 ≤ vPut s w la co ∧ vPut s w la co ≤ 12 := by
  have h0 := hv.1.1
  have hc : 0 ≤ w → mCnt (rLay s w la co) ≤ 12 ∧ 0 ≤ mCnt (rLay s w la co) := fun w0 => by
    have e : rLay s w la co 0 = s 0 := rLay_o (by omega) (by omega)
    have := mCnt_b (s := rLay s w la co) (by omega)
    omega
  unfold vPut
  by_cases z : mPl (gh s) w la co
  · rw [if_pos z]
    have := hc z.1.1
    split <;> omega
  · rw [if_neg z]
    omega
theorem vPal_b {s : Int → Int} (hv : mOkr s) : 0 ≤ vPal s ∧ vPal s ≤ 12 := by
  have h0 := hv.1.1
  have e : rPal s 0 = s 0 := by
    unfold rPal
    rw [rPutN_o (fun w => by omega)]
    exact rOffN_o _ (fun w w0 w1 => by omega)
  unfold vPal
  have := mCnt_b (s := rPal s) (by omega)
  omega
theorem vTak_b {s : Int → Int} {w : Int} (hv : mOkr s) : -12 ≤ vTak s w ∧ vTak s w ≤ 12 := by
  have h0 := hv.1.1
  unfold vTak
  by_cases z : 0 ≤ w ∧ w < s 0
  · rw [if_pos z]
    have e : rOff s w 0 = s 0 := rOff_o (by omega) (by omega)
    have := mCnt_b (s := rOff s w) (by omega)
    split <;> omega
  · rw [if_neg z]
    omega
theorem vAdd_b {s : Int → Int} {le f sp he way : Int} (hv : mOkr s) : -13 ≤ vAdd s le f sp he way ∧ vAdd s le f sp he way ≤ 12 := by
  have h0 := hv.1.1
  unfold vAdd
  split
  · split <;> omega
  · omega
theorem vRem_b {s : Int → Int} {w : Int} (hv : mOkr s) : -11 ≤ vRem s w ∧ vRem s w ≤ 12 := by
  have h0 := hv.1.1
  unfold vRem
  split <;> omega
theorem vAsh_b {s : Int → Int} {f : Int} (hv : mOkr s) : -13 ≤ vAsh s f ∧ vAsh s f ≤ 12 := by
  have h0 := hv.1.2.1
  unfold vAsh qMAddShot
  show -13 ≤ (if 1 ≤ f ∧ f ≤ 3000 then (if qMShotOf (gh s) f ≠ -19 then -12 else if s 1 = 10 then -13 else s 1 + 1) else -11) ∧ (if 1 ≤ f ∧ f ≤ 3000 then (if qMShotOf (gh s) f ≠ -19 then -12 else if s 1 = 10 then -13 else s 1 + 1) else -11) ≤ 12
  (repeat' split) <;> omega
theorem vRsh_b {s : Int → Int} {f : Int} (hv : mOkr s) : -13 ≤ vRsh s f ∧ vRsh s f ≤ 12 := by
  have h0 := hv.1.2.1
  unfold vRsh qMRemShot
  show -13 ≤ (if 1 ≤ f ∧ f ≤ 3000 then (if qMShotOf (gh s) f = -19 then -12 else s 1 - 1) else -11) ∧ (if 1 ≤ f ∧ f ≤ 3000 then (if qMShotOf (gh s) f = -19 then -12 else s 1 - 1) else -11) ≤ 12
  (repeat' split) <;> omega
theorem vSpd_b {s : Int → Int} {x : Int} (hv : mOkr s) : -11 ≤ vSpd s x ∧ vSpd s x ≤ 400 := by
  have h0 := hv.1.2.2.1
  unfold vSpd
  split <;> omega
theorem aV_b {s : Int → Int} {y : Int} (hv : mOkr s) : -13 ≤ aV s y ∧ aV s y ≤ 2000 := by
  have b1 := vAdd_b (le := 1 + lo (sr y 4) 12) (f := lo (sr y 6) 60) (sp := 1 + lo (sr y 5) 30) (he := lo (sr y 7) 20) (way := lo (sr y 8) 5) hv
  have b2 := vRem_b (w := lo (sr y 4) 5) hv
  have b3 := vSet_b (w := lo (sr y 4) 5) (what := lo (sr y 7) 4) (v := lo (sr y 6) 8) hv
  have b4 := vAsh_b (f := 1 + lo (sr y 4) 90) hv
  have b5 := vRsh_b (f := 1 + lo (sr y 4) 90) hv
  have b6 := vSpd_b (x := 50 + lo (sr y 4) 351) hv
  have b7 := vTak_b (w := lo (sr y 4) 5) hv
  have b8 := vPal_b hv
  have b9 := vPut_b (w := lo (sr y 4) 5) (la := 2 + lo (sr y 7) 3) (co := 8 + lo (sr y 6) 20) hv
  unfold aV
  (repeat' split) <;> omega
theorem a9 {s : Int → Int} {y : Int} (hv : mOkr s) (hk : kd y = 9) (ho : ∃ o : Int → Int, sOrd (fun w => s (13 + 19 * w + 6)) (fun w => s (13 + 19 * w + 0)) (s 0) o) : pairs (aT s y) = 0 := by
  unfold aT
  rw [if_neg (by omega), if_neg (by omega), if_neg (by omega), if_neg (by omega), if_neg (by omega), if_neg (by omega), if_neg (by omega), if_pos hk]
  exact pal_0 hv ho
theorem ale {s : Int → Int} {y : Int} (hv : mOkr s) (h : -11 < aV s y) (hk : 9 < kd y ∨ kd y = 8 ∨ kd y = 4 ∨ kd y = 3) : pairs (aT s y) ≤ pairs s := by
  unfold aV at h
  unfold aT
  rcases hk with hk | hk | hk | hk
  · rw [if_neg (by omega), if_neg (by omega), if_neg (by omega), if_neg (by omega), if_neg (by omega), if_neg (by omega), if_neg (by omega), if_neg (by omega)] at h ⊢
    exact put_le hv h
  · rw [if_neg (by omega), if_neg (by omega), if_neg (by omega), if_neg (by omega), if_neg (by omega), if_neg (by omega), if_pos hk] at h ⊢
    exact tak_le hv h
  · rw [if_neg (by omega), if_neg (by omega), if_pos hk] at h ⊢
    exact set_le hv h
  · rw [if_neg (by omega), if_pos hk] at h ⊢
    exact rem_le hv h
/-- the state alone -/
abbrev St0 (I : fM) (P : fN) (s : Int → Int) : Prop := St I P s 0 (fun _ _ => 0)
theorem St_0 {I : fM} {P : fN} {s : Int → Int} {k : Nat} {tp : Nat → Int → Int} (S : St I P s k tp) : St0 I P s := St_tp (St_wk S (Nat.zero_le k)) (fun i hi => absurd hi (Nat.not_lt_zero i))
/-- a call refused -/
theorem o_no {K : fM} {Q : fN} {s t : Int → Int} {k : Nat} {tp : Nat → Int → Int} {v : Int} (h : oSt K Q s k tp v t) (hv : v ≤ -11) : St K Q s k tp := by
  rcases h with h | h
  · exact h.2
  · omega
theorem o_yes {K : fM} {Q : fN} {s t : Int → Int} {k : Nat} {tp : Nat → Int → Int} {v : Int} (h : oSt K Q s k tp v t) (hv : -11 < v) : St K Q t (k + 1) (tcons s tp) := by
  rcases h with h | h
  · omega
  · exact h.2
theorem tAdd_0 {s : Int → Int} {le f sp he way : Int} (hs : 0 ≤ s 0) (hl : 0 ≤ le) : tAdd s le f sp he way 0 = s 0 + 1 := by
  unfold tAdd
  rw [nrm_i (by decide) (by decide)]
  unfold rWord
  rw [if_neg (by omega), if_pos rfl]
theorem g_app0 (I : fM) : qXApp I 0 = -11 ∧ gXApp I 0 = I := by
  unfold qXApp gXApp
  rw [if_neg (by decide), if_neg (fun z => absurd z.1 (by decide))]
  exact ⟨rfl, rfl⟩
theorem vWord7 {s : Int → Int} {k : Int} (k0 : 0 ≤ k) (k1 : k < s 0) : vWord s k 7 = s (13 + 19 * k + 6) := by
  unfold vWord qMWord
  rw [if_pos ⟨⟨k0, k1⟩, by decide⟩, if_pos rfl]
/-- the row of a long kept in a local -/
theorem fV_lstore {p : Program} {l : Launch} {e : Env} {R : Room} {s : State} {m : MethodId} {args : Array Value} {below : List Frame} {meth : Method} {c : Code} {Q : State → Prop} {A : Nat → Prop} {Γ : fG} {N nL kc ks : Nat} {I : fM} {P : fN} {pc pc' : Nat} {lv lv' : List (Nat × Value)} {st : List Value} {cc : ByteArray} {own : String} {Ts : List Cond} {ret : Option FieldType} (G : fC p s m args meth c cc own Ts A Γ N nL ret) {i : Nat} {x : Int64} (hdg : decode cc pc = .ok (.lstore i, 2)) (hn : i + 1 < nL) (hl9 : (i, Value.long x) :: lv.filter (fun q => !(q.1 == i) && (!(q.1 == i + 1) && !(q.1 + 1 == i && q.2.category == 2))) = lv') (hpc : pc + 2 = pc') (k : fV p l e R s m args below meth c Q A Γ N nL kc ks I P pc' lv' st) : fV p l e R s m args below meth c Q A Γ N nL kc ks I P pc lv (.long x :: st) := by
  subst hpc
  exact fun H locs ls hP hS hl => lv_lstore G.1 G.2.1 hdg hl hn hl9 (fun ls' hl' => k H locs ls' hP hS hl')
/-- cell -/
theorem cell_blind {Γ : fG} {I : fM} {P : fN} {b L : Nat} {xs : Nat → Int32} {av : List Value} : FrameBlind (va_Pc av (fun U => fW Γ 214 I P U ∧ va_X b L xs U U.heap ∧ b < U.heap.size ∧ ¬ fA Γ 214 b)) := by
  intro a U g mk h
  obtain ⟨h1, ⟨h2, h3, h4, h5⟩, h6, h7⟩ := h
  exact ⟨h1, ⟨h2, va_K.moved (u := U) (U := U.calling g mk a) (Vm.Alike.refl U.vm) h3, h4, fS.same (s := U) (U := U.calling g mk a) rfl h5⟩, va_X.moved (u := U) (U := U.calling g mk a) (Vm.Alike.refl U.vm) h6, h7⟩
set_option maxHeartbeats 4000000 in
theorem mL_cell (l : Launch) (Γ : fG) (I : fM) (P : fN) {b L : Nat} {xs : Nat → Int32} (hL : L ≤ 260) (k : Int) (hk : 0 ≤ k ∧ k ≤ 100) : Met l yL_cell wsL_cell rmL_cell (va_Pc [.ref b, .int (i32 k)] (fun U => fW Γ 214 I P U ∧ va_X b L xs U U.heap ∧ b < U.heap.size ∧ ¬ fA Γ 214 b)) (fQ Γ 214 (fun v J Q => (∃ x : Int, v = some (.int (i32 x))) ∧ J = I ∧ Q = P)) 0 0 (fA Γ 214) := by
  refine Met.ofW (cc := cL_cell) (maxL := 2) (ret := some .int) (by decide +kernel) rfl ?_
  intro p e s m args below meth c s₁ B hml hv
  obtain ⟨rfl, ⟨hP, hK, hinj, hS⟩, hX, hbl, hbA⟩ := hv
  have hx := B.exec
  have hb := B.bytes
  have hr := B.returns
  have hts := atoms_spec (ws := wsL_cell) B.pre
  have hown : s.vm.findClass RL = some m.cls := findClass_of_methodNamed B.named
  have hlocks := B.notSynchronized
  rw [lg_entry_eq]
  have G : fC p s m [Value.ref b, Value.int (i32 k)].toArray meth c cL_cell RL wsL_cell (fA Γ 214) Γ 214 2 (some .int) := ⟨hx, hb, hml, hown, hts, hK, hinj, fun k hk => ⟨k, hk, rfl⟩, hS, hr, hlocks⟩
  have body : fV p l e rmL_cell s m [Value.ref b, Value.int (i32 k)].toArray below meth c (MQ below (fQ Γ 214 (fun v J Q => (∃ x : Int, v = some (.int (i32 x))) ∧ J = I ∧ Q = P)) [Value.ref b, Value.int (i32 k)].toArray s 0 0 (fA Γ 214)) (fA Γ 214) Γ 214 2 0 0 I P 0 [(0, .ref b), (1, .int (i32 k))] [] := by
    refine fV_iload_n (pc' := 1) G 1 dL_cell_0 rfl rfl rfl ?_
    refine fV_aload_n (pc' := 2) G 0 dL_cell_1 rfl rfl rfl ?_
    refine fV_slen (pc' := 3) G hX hbl hbA (by omega) dL_cell_2 rfl ?_
    refine fV_icmp_ge (tgt := 12) (pc' := 6) G dL_cell_3 (by decide) rfl (by omega) (by omega) (fun c1 => ?_) (fun c1 => ?_)
    · refine fV_sipush (n := 7919) (pc' := 15) G dL_cell_12 rfl rfl ?_
      refine fV_iload_n (pc' := 16) G 1 dL_cell_15 rfl rfl rfl ?_
      refine fV_iconst (pc' := 17) G dL_cell_16 rfl ?_
      refine fV_iadd (pc' := 18) G dL_cell_17 rfl ?_
      refine fV_imul (pc' := 19) G dL_cell_18 rfl ?_
      refine fV_iload_n (pc' := 20) G 1 dL_cell_19 rfl rfl rfl ?_
      refine fV_bipush (n := 11) (pc' := 22) G dL_cell_20 rfl rfl ?_
      refine fV_iadd (pc' := 23) G dL_cell_22 rfl ?_
      refine fV_imul (pc' := 24) G dL_cell_23 rfl ?_
      refine fV_iret G dL_cell_24 ?_
      exact ⟨⟨_, rfl⟩, rfl, rfl⟩
    · refine fV_aload_n (pc' := 7) G 0 dL_cell_6 rfl rfl rfl ?_
      refine fV_iload_n (pc' := 8) G 1 dL_cell_7 rfl rfl rfl ?_
      refine fV_sld (q := k) (v := (xs k.toNat).toInt) (pc' := 9) G hX hbl hbA (by omega) (by omega) rfl dL_cell_8 rfl ?_
      refine fV_goto (tgt := 24) G dL_cell_9 (by decide) ?_
      refine fV_iret G dL_cell_24 ?_
      exact ⟨⟨_, rfl⟩, rfl, rfl⟩
  exact body _ _ _ hP va_S.rf (lv_entry [Value.ref b, Value.int (i32 k)] (Nat.le_of_ble_eq_true rfl))
theorem fV_cell {p : Program} {l : Launch} {e : Env} {s : State} {m : MethodId} {args : Array Value} {below : List Frame} {meth : Method} {c : Code} {Q : State → Prop} {A : Nat → Prop} {Γ : fG} {nL kc ks : Nat} {I : fM} {P : fN} {pc pc' : Nat} {lv : List (Nat × Value)} {rest : List Value} {ret : Option FieldType} {b L : Nat} {xs : Nat → Int32} (G : fC p s m args meth c cL_law RL wsL_law A Γ 214 nL ret) (hXS : va_X b L xs s s.heap) (hbl : b < s.heap.size) (hbA : ¬ A b) (hL : L ≤ 260) {k : Int} (hk : 0 ≤ k ∧ k ≤ 100) (hW : (rest.map fun v => v.category).sum ≤ 8) (hkc : kc ≤ room_1.cells) (hks : ks ≤ room_1.slots) (hdg : decode cL_law pc = .ok (.invokestatic 76, 3)) (hpc : pc + 3 = pc') (kk : ∀ x : Int, fV p l e room_1 s m args below meth c Q A Γ 214 nL kc ks I P pc' lv (.int (i32 x) :: rest)) : fV p l e room_1 s m args below meth c Q A Γ 214 nL kc ks I P pc lv (.int (i32 k) :: .ref b :: rest) := by
  subst hpc
  obtain ⟨bytes, maxL, ret', ws', hg, hw, hrc, hrs, hd, hR⟩ := kcL_law_76
  have hx := G.1
  have hb := G.2.1
  have hml := G.2.2.1
  have hown := G.2.2.2.1
  have hts := G.2.2.2.2.1
  have hAA := G.2.2.2.2.2.2.2.1
  refine fV_of_run (rest := rest) (post := fun v J Q => (∃ x : Int, v = some (.int (i32 x))) ∧ J = I ∧ Q = P) (a := ([.ref b, .int (i32 k)] : List Value).toArray) hAA (fun H locs ls hP hS hl => ?_) (fun v J Q h => ?_)
  · exact va_runS (As := [.ref b, .int (i32 k)]) (rest := rest) ⟨hx, hb, hml, hown, hts⟩ (mL_cell l Γ I P hL k hk) (cwS 2 hts hg hw hrc hrs hd hR) ⟨cell_blind, fun U hU hW => ⟨rfl, (fW_pre G (av := [.ref b, .int (i32 k)]) hP hS U hU hW).2, by rw [hU]; exact (hXS.kept (hS.2.1 b hbl hbA)).moved hW.alike, by rw [hU]; exact Nat.lt_of_lt_of_le hbl hS.1, fun z => hbA (by obtain ⟨k, h1, h2⟩ := z; rw [h2]; exact hAA k h1)⟩⟩ rfl rfl hl.1 rfl (lv_room hW) hdg ⟨by omega, by omega⟩
  · obtain ⟨⟨x, rfl⟩, rfl, rfl⟩ := h
    exact kk x
