/-! CTOR 0: worlds that grow -/
def cW (n : Nat) (ad : Nat → Nat) (J : Nat → va_E) : va_W := (List.range n).map (fun k => (ad k, J k))
theorem cW_len {n : Nat} {ad : Nat → Nat} {J : Nat → va_E} : (cW n ad J).length = n := by simp [cW]
theorem cW_get {n k : Nat} {ad : Nat → Nat} {J : Nat → va_E} (h : k < n) : (cW n ad J)[k]? = some (ad k, J k) := by
  unfold cW
  rw [List.getElem?_map, List.getElem?_range h]
  rfl
theorem cW_at {n k : Nat} {ad : Nat → Nat} {J : Nat → va_E} {a : Nat} {e : va_E} (h : k < n) (ha : ad k = a) (he : J k = e) : (cW n ad J)[k]? = some (a, e) := by rw [cW_get h, ha, he]
theorem cW_no {n k : Nat} {ad : Nat → Nat} {J : Nat → va_E} (h : n ≤ k) : (cW n ad J)[k]? = none := List.getElem?_eq_none (by rw [cW_len]; exact h)
theorem cW_c {n : Nat} {ad ad' : Nat → Nat} {J J' : Nat → va_E} (h : ∀ k, k < n → ad k = ad' k ∧ J k = J' k) : cW n ad J = cW n ad' J' := by
  unfold cW
  exact List.map_congr_left (fun k hk => by have := h k (List.mem_range.mp hk); rw [this.1, this.2])
theorem cW_app {n m : Nat} {ad ad1 ad2 : Nat → Nat} {J J1 J2 : Nat → va_E} (h1 : ∀ k, k < n → ad k = ad1 k ∧ J k = J1 k) (h2 : ∀ i, i < m → ad (n + i) = ad2 i ∧ J (n + i) = J2 i) : cW n ad1 J1 ++ cW m ad2 J2 = cW (n + m) ad J := by
  apply List.ext_getElem?
  intro i
  by_cases hi : i < n
  · rw [List.getElem?_append_left (by rw [cW_len]; exact hi), cW_get hi, cW_get (by omega), (h1 i hi).1, (h1 i hi).2]
  · rw [List.getElem?_append_right (by rw [cW_len]; omega), cW_len]
    by_cases hi2 : i < n + m
    · have k := h2 (i - n) (by omega)
      rw [show n + (i - n) = i by omega] at k
      rw [cW_get (show i - n < m by omega), cW_get hi2, k.1, k.2]
    · rw [cW_no (by omega), cW_no (by omega)]
theorem cW_push {n : Nat} {ad ad1 : Nat → Nat} {J J1 : Nat → va_E} {a : Nat} {e : va_E} (h1 : ∀ k, k < n → ad k = ad1 k ∧ J k = J1 k) (h2 : ad n = a) (h3 : J n = e) : cW n ad1 J1 ++ [(a, e)] = cW (n + 1) ad J :=
  cW_app (m := 1) (ad2 := fun _ => a) (J2 := fun _ => e) h1 (fun i hi => by rw [show n + i = n by omega]; exact ⟨h2, h3⟩)
theorem cW_set {n k : Nat} {ad : Nat → Nat} {J J' : Nat → va_E} {a : Nat} {e : va_E} (ha : ad k = a) (h1 : ∀ i, i < n → i ≠ k → J' i = J i) (h2 : J' k = e) : (cW n ad J).set k (a, e) = cW n ad J' := by
  apply List.ext_getElem?
  intro i
  by_cases hi : i = k
  · subst hi
    by_cases hl : i < n
    · rw [List.getElem?_set_self (by rw [cW_len]; exact hl), cW_get hl, ha, h2]
    · rw [List.getElem?_eq_none (by rw [List.length_set, cW_len]; omega), cW_no (by omega)]
  · rw [List.getElem?_set_ne (Ne.symm hi)]
    by_cases hl : i < n
    · rw [cW_get hl, cW_get hl, h1 i hl hi]
    · rw [cW_no (by omega), cW_no (by omega)]
theorem nd_range : ∀ (l : List Nat), l.Nodup → va_nd l = true
  | [], _ => rfl
  | a :: l, h => by
    show (decide (a ∉ l) && va_nd l) = true
    rw [nd_range l (List.nodup_cons.mp h).2, decide_eq_true (List.nodup_cons.mp h).1]
    rfl
theorem cW_cut {n : Nat} {ad : Nat → Nat} {J : Nat → va_E} : [n].map (fun i => (cW (n + 1) ad J)[i]?) = [(ad n, J n)].map some := by
  show [(cW (n + 1) ad J)[n]?] = [some (ad n, J n)]
  rw [cW_get (by omega)]
theorem cW_cutf {n : Nat} {ad : Nat → Nat} {J : Nat → va_E} : [n].filterMap (fun i => (cW (n + 1) ad J)[i]?) = [(ad n, J n)] := by
  simp [cW_get (show n < n + 1 by omega)]
theorem cW_rest {n : Nat} {ad : Nat → Nat} {J : Nat → va_E} : (List.range n).map (fun i => (cW (n + 1) ad J)[i]?) = (cW n ad J).map some := by
  unfold cW
  rw [List.map_map]
  exact List.map_congr_left (fun k hk => cW_get (n := n + 1) (by have := List.mem_range.mp hk; omega))
/-- behind a constructor's call over the last cell -/
theorem cW_join {A0 : Nat → Prop} {D : va_G} {cl : List vw_C} {n : Nat} {ad : Nat → Nat} {J : Nat → va_E} {w1 : va_W} {H H1 : Heap} (hP : va_P D cl (cW (n + 1) ad J) H) (hD : va_D A0 (cW (n + 1) ad J)) (hk : ∀ q : Nat, q < H.size → ¬ va_A [(ad n, J n)] H.size q → H1[q]? = H[q]?) (hF : ∀ q, va_A [(ad n, J n)] H.size q → A0 q) (hP1 : va_P D cl w1 H1) (hD1 : va_D (va_A [(ad n, J n)] H.size) w1) : va_P D cl (cW n ad J ++ w1) H1 ∧ va_D A0 (cW n ad J ++ w1) :=
  va_join (wc := [(ad n, J n)]) hP hD [n] (List.range n) cW_cut cW_rest (nd_range _ List.nodup_range) (fun i hi => by have := List.mem_range.mp hi; simp; omega) hk hF hP1 hD1
theorem cA_int {Γ : fG} {cA : ClassId} {U : State} (h : va_K Γ.2.2.1 vwCl (fty Γ ++ [(cA, .int)]) U) : cA = Γ.2.1 0 := by
  have h1 : U.vm.findClass ("[" ++ (FieldType.int).toString) = some cA := (h.2 3 _ rfl).2
  have h2 : U.vm.findClass ("[" ++ (FieldType.int).toString) = some (Γ.2.1 0) := (h.2 0 _ rfl).2
  exact Option.some.inj (h1.symm.trans h2)
theorem cA_word {Γ : fG} {cA : ClassId} {U : State} (h : va_K Γ.2.2.1 vwCl (fty Γ ++ [(cA, .object RX2)]) U) : cA = Γ.2.1 1 := by
  obtain ⟨-, -, -, -, -, h1⟩ := (h.2 3 _ rfl).2
  obtain ⟨-, -, -, -, -, h2⟩ := (h.2 1 _ rfl).2
  exact Option.some.inj (h1.symm.trans h2)
theorem cA_scene {Γ : fG} {cA : ClassId} {U : State} (h : va_K Γ.2.2.1 vwCl (fty Γ ++ [(cA, .object RX0)]) U) : cA = Γ.2.1 2 := by
  obtain ⟨-, -, -, -, -, h1⟩ := (h.2 3 _ rfl).2
  obtain ⟨-, -, -, -, -, h2⟩ := (h.2 2 _ rfl).2
  exact Option.some.inj (h1.symm.trans h2)
theorem cK_4 {Γ : fG} {q : ClassId × FieldType} {U : State} (h : va_K Γ.2.2.1 vwCl (fty Γ ++ [q]) U) : va_K Γ.2.2.1 vwCl (fty Γ) U := h.sub [0, 1, 2] rfl
/-- what else a constructor needs of the machine -/
def cX (U : State) : Prop := va_AO RX2 U ∧ va_AO RX0 U ∧ va_Nw (.methodLinkNest RX3 29 yX1_init "VoiceWords") U ∧ va_Nw (.methodLinkNest RX0 25 yX2_init "VoiceWords") U
theorem cX.warm {s U : State} (hW : s.WarmedH U.vm) (h : cX s) : cX U := ⟨h.1.moved hW.alike, h.2.1.moved hW.alike, h.2.2.1.warmM hW, h.2.2.2.warmM hW⟩
theorem cX.same {s U : State} (hv : s.vm = U.vm) (h : cX s) : cX U := by
  have hal : s.vm.Alike U.vm := by rw [hv]; exact Vm.Alike.refl _
  exact ⟨h.1.moved hal, h.2.1.moved hal, h.2.2.1.same rfl hv, h.2.2.2.same rfl hv⟩
/-- a constructor's start: its object, of which nothing is known but that it's new -/
def cP (Γ : fG) (h0 sz : Nat) (e : va_E) (U : State) : Prop := U.heap.size = sz ∧ va_P Γ.2.2.1 vwCl [(h0, e)] U.heap ∧ va_K Γ.2.2.1 vwCl (fty Γ) U ∧ va_D (fun _ => True) [(h0, e)] ∧ cX U
theorem cP_blind {Γ : fG} {h0 sz : Nat} {e : va_E} {av : List Value} : FrameBlind (va_Pc av (cP Γ h0 sz e)) := by
  intro a U g mk h
  obtain ⟨h1, h2, h3, h4, h5, h6⟩ := h
  exact ⟨h1, h2, h3, va_K.moved (u := U) (U := U.calling g mk a) (Vm.Alike.refl U.vm) h4, h5, cX.same (s := U) (U := U.calling g mk a) rfl h6⟩
/-- its end: the world ws, by the addresses of what is new -/
abbrev cQ (Γ : fG) (h0 sz : Nat) (e : va_E) (ws : (Nat → Nat) → va_W) : Array Value → State → Outcome → State → Prop := va_Qv (fun ad : Nat → Nat => ad 0 = h0) (fun ad t => va_P Γ.2.2.1 vwCl (ws ad) t.heap ∧ va_D (va_A [(h0, e)] sz) (ws ad)) (va_A [(h0, e)] sz)
/-- a constructor's contract -/
def cMet (l : Launch) (y : MethodName) (ws : List Cond) (rm : Room) (Γ : fG) (h0 sz : Nat) (e : va_E) (W1 : (Nat → Nat) → va_W) (mc ms : Nat) : Prop := Met l y ws rm (va_Pc [.ref h0] (cP Γ h0 sz e)) (cQ Γ h0 sz e W1) mc ms (va_A [(h0, e)] sz)
abbrev rawW : va_E := .inr (2, [.null, .int (i32 0), .int (i32 0), .int (i32 0), .int (i32 0), .int (i32 0), .int (i32 0), .int (i32 0), .int (i32 0)])
abbrev finW (q : Nat) : va_E := .inr (2, [.ref q, .int (i32 0), .int (i32 0), .int (i32 0), .int (i32 0), .int (i32 0), .int (i32 0), .int (i32 0), .int (i32 0)])
abbrev arrI (Γ : fG) (n : Nat) : va_E := .inl (Γ.2.1 0, n, .inl (fun _ => i32 0))
def rmcW : Room := { frames := 1, cells := 1, slots := 12, locals := 20 }
set_option maxHeartbeats 4000000 in
set_option maxRecDepth 100000 in
theorem cWord (l : Launch) (Γ : fG) (h0 sz : Nat) : cMet l yX2_init wsX2_init rmcW Γ h0 sz rawW (fun ad => [(ad 0, finW (ad 1)), (ad 1, arrI Γ 12)]) 1 12 := by
  refine Met.ofW (cc := cX2_init) (maxL := 1) (ret := none) (by decide +kernel) rfl ?_
  intro p e s m args below meth c s₁ B hml hv
  obtain ⟨rfl, hsz, hP, hK, hD0, hX⟩ := hv
  have hx := B.exec
  have hb := B.bytes
  have hr := B.returns
  have hts := atoms_spec (ws := wsX2_init) B.pre
  have hown : s.vm.findClass RX2 = some m.cls := findClass_of_methodNamed B.named
  have hin : meth.name = "<init>" := (name_of_methodNamed B.named B.method).1
  subst hsz
  have hD := hD0.self (sz := s.heap.size)
  have hA : ∀ q : Nat, s.heap.size ≤ q → va_A [(h0, rawW)] s.heap.size q := fun q h => Or.inr h
  have hS : va_S (va_A [(h0, rawW)] s.heap.size) s.heap s.heap [] := va_S.rf
  have hl := lv_entry ([.ref h0]) (n := 1) (Nat.le_of_ble_eq_true rfl)
  rw [lg_entry_eq]
  generalize (lg_sl ([.ref h0]) ++ List.replicate (1 - (lg_sl ([.ref h0])).length) Slot.unset).toArray = ls at hl ⊢
  have hl : lv_has ls 1 [(0, .ref h0)] := hl
  refine lv_aload_n hx hb dX2_init_0 rfl (lv_at hl 0 rfl) ?_
  refine W.objInit hx hb hown (hts (.methodLink RX2 3 objectInit) (by decide +kernel)) (hts (.instanceMethod objectInit) (by decide +kernel)) (hts _ (List.mem_cons_of_mem _ (List.mem_append_left _ (List.mem_of_getElem? (i := 2) rfl)))) rfl (by rw [hml]; exact hl.1) rfl dX2_init_1 (Nat.le_of_ble_eq_true rfl) (Nat.le_of_ble_eq_true rfl) ?_
  refine W.eq (g2 := F0 m 4 ls []) rfl ?_
  refine lv_aload_n hx hb dX2_init_4 rfl (lv_at hl 0 rfl) ?_
  refine lv_bipush (v := i32 12) hx hb dX2_init_5 rfl ?_
  refine va_newa (atype := .int) (ty := .int) (N' := 12) (a0 := (12, .inl (fun _ => i32 0))) hx hb (hts (.arrayClass .int) (by decide +kernel)) rfl hK hP hD hS hA (fun _ => rfl) (by decide) (by decide) (by decide) (Nat.le_of_ble_eq_true rfl) (Nat.le_of_ble_eq_true rfl) dX2_init_7 (fun q1 cA H hK hP hD hS => ?_)
  obtain rfl := cA_int hK
  have hK := cK_4 hK
  refine va_putF (D := Γ.2.2.1) (ci := 2) (v := .ref q1) (ty := .array .int) (C := RX2) (T := TX2) (N := 9) hx hb hts (by decide +kernel) tyX2 tyX2_ok nmX2 hown hK hP hD hS 0 rfl rfl 0 (by decide) (hts (.fieldLink RX2 9 "VoiceWords$Word" "letters" "[I") (by decide +kernel)) (fun _ h9 => h9) rfl hin rfl (by decide +kernel) rfl rfl (Nat.le_of_ble_eq_true rfl) dX2_init_9 (fun H locs hP hD hS => ?_)
  refine W.widen (k := 1) (n := 12) (by decide) (by decide) ?_
  exact W.vret hx hb hr (fun t ht hW => ⟨⟨fun k => if k = 0 then h0 else q1, rfl, rfl, by rw [ht]; exact hP, hD⟩, hS.F ht⟩) hS.2.2 dX2_init_12
abbrev rawT : va_E := .inr (1, [.null, .int (i32 0), .int (i32 0), .int (i32 0), .int (i32 0)])
abbrev finT (q : Nat) : va_E := .inr (1, [.ref q, .int (i32 0), .int (i32 0), .int (i32 0), .int (i32 0)])
def rmcT : Room := { frames := 1, cells := 1, slots := 160, locals := 20 }
set_option maxHeartbeats 4000000 in
set_option maxRecDepth 100000 in
theorem cText (l : Launch) (Γ : fG) (h0 sz : Nat) : cMet l yX1_init wsX1_init rmcT Γ h0 sz rawT (fun ad => [(ad 0, finT (ad 1)), (ad 1, arrI Γ 160)]) 1 160 := by
  refine Met.ofW (cc := cX1_init) (maxL := 1) (ret := none) (by decide +kernel) rfl ?_
  intro p e s m args below meth c s₁ B hml hv
  obtain ⟨rfl, hsz, hP, hK, hD0, hX⟩ := hv
  have hx := B.exec
  have hb := B.bytes
  have hr := B.returns
  have hts := atoms_spec (ws := wsX1_init) B.pre
  have hown : s.vm.findClass RX1 = some m.cls := findClass_of_methodNamed B.named
  have hin : meth.name = "<init>" := (name_of_methodNamed B.named B.method).1
  subst hsz
  have hD := hD0.self (sz := s.heap.size)
  have hA : ∀ q : Nat, s.heap.size ≤ q → va_A [(h0, rawT)] s.heap.size q := fun q h => Or.inr h
  have hS : va_S (va_A [(h0, rawT)] s.heap.size) s.heap s.heap [] := va_S.rf
  have hl := lv_entry ([.ref h0]) (n := 1) (Nat.le_of_ble_eq_true rfl)
  rw [lg_entry_eq]
  generalize (lg_sl ([.ref h0]) ++ List.replicate (1 - (lg_sl ([.ref h0])).length) Slot.unset).toArray = ls at hl ⊢
  have hl : lv_has ls 1 [(0, .ref h0)] := hl
  refine lv_aload_n hx hb dX1_init_0 rfl (lv_at hl 0 rfl) ?_
  refine W.objInit hx hb hown (hts (.methodLink RX1 3 objectInit) (by decide +kernel)) (hts (.instanceMethod objectInit) (by decide +kernel)) (hts _ (List.mem_cons_of_mem _ (List.mem_append_left _ (List.mem_of_getElem? (i := 2) rfl)))) rfl (by rw [hml]; exact hl.1) rfl dX1_init_1 (Nat.le_of_ble_eq_true rfl) (Nat.le_of_ble_eq_true rfl) ?_
  refine W.eq (g2 := F0 m 4 ls []) rfl ?_
  refine lv_aload_n hx hb dX1_init_4 rfl (lv_at hl 0 rfl) ?_
  refine lv_sipush (v := i32 160) hx hb dX1_init_5 rfl ?_
  refine va_newa (atype := .int) (ty := .int) (N' := 160) (a0 := (160, .inl (fun _ => i32 0))) hx hb (hts (.arrayClass .int) (by decide +kernel)) rfl hK hP hD hS hA (fun _ => rfl) (by decide) (by decide) (by decide) (Nat.le_of_ble_eq_true rfl) (Nat.le_of_ble_eq_true rfl) dX1_init_8 (fun q1 cA H hK hP hD hS => ?_)
  obtain rfl := cA_int hK
  have hK := cK_4 hK
  refine va_putF (D := Γ.2.2.1) (ci := 1) (v := .ref q1) (ty := .array .int) (C := RX1) (T := TX1) (N := 5) hx hb hts (by decide +kernel) tyX1 tyX1_ok nmX1 hown hK hP hD hS 0 rfl rfl 0 (by decide) (hts (.fieldLink RX1 9 "VoiceWords$Text" "characters" "[I") (by decide +kernel)) (fun _ h9 => h9) rfl hin rfl (by decide +kernel) rfl rfl (Nat.le_of_ble_eq_true rfl) dX1_init_10 (fun H locs hP hD hS => ?_)
  refine W.widen (k := 1) (n := 160) (by decide) (by decide) ?_
  exact W.vret hx hb hr (fun t ht hW => ⟨⟨fun k => if k = 0 then h0 else q1, rfl, rfl, by rw [ht]; exact hP, hD⟩, hS.F ht⟩) hS.2.2 dX1_init_13
