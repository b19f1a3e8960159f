/-! CTOR 3: the class's constructor (rows laid by wip/whole/gen/cvoice.py) -/
abbrev rawV : va_E := .inr (3, [.null, .null, .null, .int (i32 0), .null])
/-- the base of the scene in which a cell lies -/
def sb (k : Nat) : Nat := if k < 31 then 1 else if k < 61 then 31 else 62 + 30 * ((k - 62) / 30)
/-- the cells of the class's objects; e0 the first, e61 the row of kept scenes -/
def vE (Γ : fG) (e0 e61 : va_E) (ad : Nat → Nat) (k : Nat) : va_E := if k = 0 then e0 else if k = 61 then e61 else if k = 212 then finT (ad 213) else if k = 213 then arrI Γ 160 else sE Γ 12 (fun i => ad (sb k + i)) (k - sb k)
theorem vE_0 {Γ : fG} {e0 e61 : va_E} {ad : Nat → Nat} : vE Γ e0 e61 ad 0 = e0 := if_pos rfl
theorem vE_61 {Γ : fG} {e0 e61 : va_E} {ad : Nat → Nat} : vE Γ e0 e61 ad 61 = e61 := by
  unfold vE
  rw [if_neg (by decide), if_pos rfl]
theorem vE_s {Γ : fG} {e0 e61 : va_E} {ad : Nat → Nat} {k : Nat} (h0 : k ≠ 0) (h1 : k ≠ 61) (h2 : k < 212) : vE Γ e0 e61 ad k = sE Γ 12 (fun i => ad (sb k + i)) (k - sb k) := by
  unfold vE
  rw [if_neg h0, if_neg h1, if_neg (by omega), if_neg (by omega)]
theorem sbk_b {k : Nat} (h0 : k ≠ 0) (h1 : k ≠ 61) : sb k ≤ k ∧ k < sb k + 30 := by
  unfold sb
  split
  · omega
  · split <;> omega
theorem vE_c {Γ : fG} {e0 e61 : va_E} {ad ad' : Nat → Nat} {n k : Nat} (h : ∀ x, x < n → ad x = ad' x) (hk : k < n) (hc : k ≠ 0 → k ≠ 61 → k < 212 → sb k + 30 ≤ n) (h2 : k = 212 → 213 < n) (h3 : k < 214) : vE Γ e0 e61 ad k = vE Γ e0 e61 ad' k := by
  by_cases z0 : k = 0
  · rw [z0, vE_0, vE_0]
  by_cases z1 : k = 61
  · rw [z1, vE_61, vE_61]
  by_cases z2 : k < 212
  · have b := sbk_b z0 z1
    rw [vE_s z0 z1 z2, vE_s z0 z1 z2]
    have := hc z0 z1 z2
    exact sE_c (n := 12) (fun i hi => h _ (by omega)) (Nat.le_refl _) (by omega)
  · unfold vE
    rw [if_neg z0, if_neg z1, if_neg z0, if_neg z1]
    by_cases z3 : k = 212
    · rw [if_pos z3, if_pos z3, h 213 (h2 z3)]
    · rw [if_neg z3, if_neg z3]
      rw [if_pos (show k = 213 by omega), if_pos (show k = 213 by omega)]
/-- where a scene may come next -/
def nxt (n : Nat) : Prop := n = 1 ∨ n = 31 ∨ ∃ j, j < 5 ∧ n = 62 + 30 * j
theorem nxt_c {n : Nat} (h : nxt n) : (∀ k, k < n → k ≠ 0 → k ≠ 61 → sb k + 30 ≤ n) ∧ (∀ i, i < 30 → sb (n + i) = n) ∧ n + 30 ≤ 212 ∧ n ≠ 0 ∧ (∀ i, i < 30 → n + i ≠ 61) := by
  rcases h with rfl | rfl | ⟨j, hj, rfl⟩
  · exact ⟨fun k hk h0 h1 => by unfold sb; omega, fun i hi => by unfold sb; rw [if_pos (by omega)], by omega, by omega, fun i hi => by omega⟩
  · refine ⟨fun k hk h0 h1 => ?_, fun i hi => ?_, by omega, by omega, fun i hi => by omega⟩
    · unfold sb; rw [if_pos hk]; omega
    · unfold sb; rw [if_neg (by omega), if_pos (by omega)]
  · refine ⟨fun k hk h0 h1 => ?_, fun i hi => ?_, by omega, by omega, fun i hi => by omega⟩
    · unfold sb
      split
      · omega
      · split <;> omega
    · unfold sb; rw [if_neg (by omega), if_neg (by omega)]; omega
theorem addS {Γ : fG} {n : Nat} {ad ad1 u : Nat → Nat} {e0 e61 : va_E} {J1 : Nat → va_E} (hn : nxt n) (h1 : ∀ k, k < n → ad1 k = ad k ∧ J1 k = vE Γ e0 e61 ad k) : cW n ad1 J1 ++ cW 30 u (sE Γ 12 u) = cW (n + 30) (fun k => if k < n then ad k else u (k - n)) (vE Γ e0 e61 (fun k => if k < n then ad k else u (k - n))) := by
  obtain ⟨c1, c2, c3, c4, c5⟩ := nxt_c hn
  refine cW_app (fun k hk => ⟨?_, ?_⟩) (fun i hi => ⟨?_, ?_⟩)
  · rw [if_pos hk, (h1 k hk).1]
  · rw [(h1 k hk).2]
    exact vE_c (n := n) (fun x hx => if_pos hx) hk (fun z0 z1 _ => c1 k hk z0 z1) (fun z => by omega) (by omega)
  · show (if n + i < n then ad (n + i) else u (n + i - n)) = u i
    rw [if_neg (by omega), show n + i - n = i by omega]
  · rw [vE_s (by omega) (c5 i hi) (by omega), c2 i hi, show n + i - n = i by omega]
    exact sE_c (n := 12) (fun x hx => by show (if n + x < n then ad (n + x) else u (n + x - n)) = u x; rw [if_neg (by omega), show n + x - n = x by omega]) (Nat.le_refl _) (by omega)
theorem set0 {Γ : fG} {n : Nat} {ad : Nat → Nat} {e0 e1 e61 : va_E} {a : Nat} (ha : ad 0 = a) : (cW n ad (vE Γ e0 e61 ad)).set 0 (a, e1) = cW n ad (vE Γ e1 e61 ad) := cW_set ha (fun i _ hi => by unfold vE; rw [if_neg hi, if_neg hi]) vE_0
theorem set61 {Γ : fG} {n : Nat} {ad : Nat → Nat} {e0 e61 e62 : va_E} {a : Nat} (ha : ad 61 = a) : (cW n ad (vE Γ e0 e61 ad)).set 61 (a, e62) = cW n ad (vE Γ e0 e62 ad) := cW_set ha (fun i _ hi => by unfold vE; rw [if_neg hi, if_neg hi]) vE_61
def hE (Γ : fG) (j : Nat) (ad : Nat → Nat) : va_E := .inl (Γ.2.1 2, 5, .inr (.inr (.inr (.inr (fun x => if x < j then some (ad (62 + 30 * x)) else none)))))
abbrev e0L (ad : Nat → Nat) : va_E := .inr (3, [.ref (ad 1), .ref (ad 31), .ref (ad 61), .int (i32 0), .null])
abbrev finV (ad : Nat → Nat) : va_E := .inr (3, [.ref (ad 1), .ref (ad 31), .ref (ad 61), .int (i32 0), .ref (ad 212)])
def rmcV : Room := { frames := 3, cells := 213, slots := 2368, locals := 61 }
set_option maxHeartbeats 4000000 in
set_option maxRecDepth 100000 in
theorem cVoice (l : Launch) (Γ : fG) (h0 sz : Nat) : cMet l yX3_init wsX3_init rmcV Γ h0 sz rawV (fun ad => cW 214 ad (vE Γ (finV ad) (hE Γ 5 ad) ad)) 213 2368 := by
  refine Met.ofW (cc := cX3_init) (maxL := 2) (ret := none) (by decide +kernel) rfl ?_
  intro p e s m args below meth c s₁ B hml hv
  obtain ⟨rfl, hsz, hP, hK, hD0, hX⟩ := hv
  have hx := B.exec
  have hb := B.bytes
  have hr := B.returns
  have hts := atoms_spec (ws := wsX3_init) B.pre
  have hown : s.vm.findClass RX3 = some m.cls := findClass_of_methodNamed B.named
  have hin : meth.name = "<init>" := (name_of_methodNamed B.named B.method).1
  subst hsz
  have hD := hD0.self (sz := s.heap.size)
  have hA : ∀ q : Nat, s.heap.size ≤ q → va_A [(h0, rawV)] s.heap.size q := fun q h => Or.inr h
  have hS : va_S (va_A [(h0, rawV)] s.heap.size) s.heap s.heap [] := va_S.rf
  have hl := lv_entry ([.ref h0]) (n := 2) (Nat.le_of_ble_eq_true rfl)
  rw [lg_entry_eq]
  generalize (lg_sl ([.ref h0]) ++ List.replicate (2 - (lg_sl ([.ref h0])).length) Slot.unset).toArray = ls at hl ⊢
  have hl : lv_has ls 2 [(0, .ref h0)] := hl
  have hlen : True := trivial
  refine lv_aload_n hx hb dX3_init_0 rfl (lv_at hl 0 rfl) ?_
  refine W.objInit hx hb hown (hts (.methodLink RX3 1 objectInit) (by decide +kernel)) (hts (.instanceMethod objectInit) (by decide +kernel)) (hts _ (List.mem_cons_of_mem _ (List.mem_append_left _ (List.mem_append_left _ (List.mem_append_left _ (List.mem_append_left _ (List.mem_append_left _ (List.mem_of_getElem? (i := 2) rfl)))))))) rfl (by rw [hml]; exact hl.1) rfl dX3_init_1 (Nat.le_of_ble_eq_true rfl) (Nat.le_of_ble_eq_true rfl) ?_
  refine W.eq (g2 := F0 m 4 ls []) rfl ?_
  refine lv_aload_n hx hb dX3_init_4 rfl (lv_at hl 0 rfl) ?_
  have hP : va_P Γ.2.2.1 vwCl (cW 1 (fun _ => h0) (vE Γ rawV rawV (fun _ => h0))) s.heap := hP
  have hD : va_D _ (cW 1 (fun _ => h0) (vE Γ rawV rawV (fun _ => h0))) := hD
  have h0a : (fun _ : Nat => h0) 0 = h0 := rfl
  have hkc1 : 0 + 1 ≤ rmcV.cells := by show 0 + 1 ≤ 213; omega
  have hks1 : 0 + 7 ≤ rmcV.slots := by show 0 + 7 ≤ 2368; omega
  refine va_new (ci := 0) (fs := [.null, .int (i32 0), .null, .int (i32 0), .int (i32 0), .null, .null]) (C := RX0) (T := TX0) (N := 7) hx hb hts (by decide +kernel) tyX0 tyX0_ok hown (hts (.classLink RX3 7 RX0) (by decide +kernel)) (hts (.instantiable RX0 7) (by decide +kernel)) (hts (.initialized RX0) (by decide +kernel)) hK hP hD hS hA rfl (fun j hj => by have hj9 : j = 0 ∨ j = 1 ∨ j = 2 ∨ j = 3 ∨ j = 4 ∨ j = 5 ∨ j = 6 := (by omega); rcases hj9 with rfl | rfl | rfl | rfl | rfl | rfl | rfl <;> rfl) hkc1 hks1 dX3_init_5 (fun q H hP hD hS => ?_)
  rw [cW_push (ad := (fun i => if i = 1 then q else (fun _ => h0) i)) (J := (fun i => if i = 1 then rawS else vE Γ rawV rawV (fun _ => h0) i)) (fun i hi => ⟨if_neg (by omega), if_neg (by omega)⟩) (if_pos rfl) (if_pos rfl)] at hP hD
  refine lv_dup hx hb dX3_init_8 rfl ?_
  have ec : [1].filterMap (fun i => (cW (1 + 1) (fun i => if i = 1 then q else (fun _ => h0) i) (fun i => if i = 1 then rawS else vE Γ rawV rawV (fun _ => h0) i))[i]?) = [(q, rawS)] := by rw [cW_cutf]; simp
  have em : [1].map (fun i => (cW (1 + 1) (fun i => if i = 1 then q else (fun _ => h0) i) (fun i => if i = 1 then rawS else vE Γ rawV rawV (fun _ => h0) i))[i]?) = [(q, rawS)].map some := by rw [cW_cut]; simp
  have hPc := hP.sub (ws' := [(q, rawS)]) [1] ec
  have hDc := hD.sub (ws' := [(q, rawS)]) [1] (nd_range _ (List.nodup_cons.mpr ⟨List.not_mem_nil, List.nodup_nil⟩)) em
  have hFc := va_free (wc := [(q, rawS)]) hD hS hA [1] em
  have hkc2 : 0 + 1 + 29 ≤ rmcV.cells := by show 0 + 1 + 29 ≤ 213; omega
  have hks2 : 0 + 7 + 307 ≤ rmcV.slots := by show 0 + 7 + 307 ≤ 2368; omega
  refine va_callv (va_runI (As := []) (rest := [.ref q, .ref h0]) ⟨hx, hb, hml, hown, hts⟩ (cScene l Γ q H.size) (cwI 0 hts gX3_init_X0_init rfl rfl rfl (hts (.initialized RX0) (by decide +kernel)) (hts (.methodLink RX3 9 yX0_init) (by decide +kernel)) (hts (.instanceMethod yX0_init) (by decide +kernel)) rfl (by decide +kernel) ⟨Nat.le_of_ble_eq_true rfl, Nat.le_of_ble_eq_true rfl⟩) ⟨cP_blind, fun U hU hW => ⟨rfl, by rw [hU], by rw [hU]; exact hPc, va_K.moved hW.alike hK, hDc.weaken (fun _ _ _ _ => trivial), hX.warm hW⟩⟩ rfl rfl hl.1 rfl (lv_room (Nat.le_of_ble_eq_true rfl)) dX3_init_9 ⟨hkc2, hks2⟩) hS (fun q _ h => hFc q h) hFc (fun u t H1 locs ht hvm h5 hB hz1 hk1 hS => ?_)
  obtain ⟨hP1, hD1⟩ := hB
  rw [ht] at hP1
  have ej : [((fun i => if i = 1 then q else (fun _ => h0) i) 1, (fun i => if i = 1 then rawS else vE Γ rawV rawV (fun _ => h0) i) 1)] = [(q, rawS)] := by simp
  obtain ⟨hP, hD⟩ := cW_join hP hD (by rw [ej]; exact hk1) (by rw [ej]; exact hFc) hP1 (by rw [ej]; exact hD1)
  rw [addS (Γ := Γ) (ad := (fun _ => h0)) (e0 := rawV) (e61 := rawV) (Or.inl rfl) (fun i hi => ⟨if_neg (by omega), if_neg (by omega)⟩)] at hP hD
  obtain ⟨a1, ea1⟩ : ∃ a9 : Nat → Nat, a9 = fun k => if k < 1 then (fun _ => h0) k else u (k - 1) := ⟨_, rfl⟩
  rw [← ea1] at hP hD
  have oa1 : ∀ i, i < 1 → a1 i = (fun _ => h0) i := fun i hi => by rw [ea1]; exact if_pos hi
  have qa1 : a1 (1) = q := by rw [ea1]; show (if 1 < 1 then _ else u (1 - 1)) = q; rw [if_neg (by omega), Nat.sub_self]; exact h5
  clear hP1 hD1 hk1 ht hFc hPc hDc ec em ej ea1 h5
  generalize H1 = H at hP hS ⊢
  rw [← qa1]
  have h0a : a1 0 = h0 := oa1 0 (by decide)
  refine va_putF (D := Γ.2.2.1) (ci := 3) (v := .ref (a1 1)) (ty := (.object "VoiceWords$Scene")) (C := RX3) (T := TX3) (N := 5) hx hb hts (by decide +kernel) tyX3 tyX3_ok nmX3 hown hK hP hD hS 0 (cW_at (by omega) h0a vE_0) rfl 0 (by decide) (hts (.fieldLink RX3 10 "VoiceWords" "scene" "LVoiceWords$Scene;") (by decide +kernel)) (fun _ h9 => h9) rfl hin rfl (by decide +kernel) rfl rfl (Nat.le_of_ble_eq_true rfl) dX3_init_12 (fun H locs hP hD hS => ?_)
  rw [set0 h0a] at hP hD
  refine W.widen (k := 30) (n := 314) (by decide) (by decide) ?_
  refine lv_aload_n hx hb dX3_init_15 rfl (lv_at hl 0 rfl) ?_
  have hP : va_P Γ.2.2.1 vwCl (cW 31 a1 (vE Γ (.inr (3, [.ref (a1 1), .null, .null, .int (i32 0), .null])) rawV a1)) H := hP
  have hD : va_D _ (cW 31 a1 (vE Γ (.inr (3, [.ref (a1 1), .null, .null, .int (i32 0), .null])) rawV a1)) := hD
  have hkc1 : 30 + 1 ≤ rmcV.cells := by show 30 + 1 ≤ 213; omega
  have hks1 : 314 + 7 ≤ rmcV.slots := by show 314 + 7 ≤ 2368; omega
  refine va_new (ci := 0) (fs := [.null, .int (i32 0), .null, .int (i32 0), .int (i32 0), .null, .null]) (C := RX0) (T := TX0) (N := 7) hx hb hts (by decide +kernel) tyX0 tyX0_ok hown (hts (.classLink RX3 7 RX0) (by decide +kernel)) (hts (.instantiable RX0 7) (by decide +kernel)) (hts (.initialized RX0) (by decide +kernel)) hK hP hD hS hA rfl (fun j hj => by have hj9 : j = 0 ∨ j = 1 ∨ j = 2 ∨ j = 3 ∨ j = 4 ∨ j = 5 ∨ j = 6 := (by omega); rcases hj9 with rfl | rfl | rfl | rfl | rfl | rfl | rfl <;> rfl) hkc1 hks1 dX3_init_16 (fun q H hP hD hS => ?_)
  rw [cW_push (ad := (fun i => if i = 31 then q else a1 i)) (J := (fun i => if i = 31 then rawS else vE Γ (.inr (3, [.ref (a1 1), .null, .null, .int (i32 0), .null])) rawV a1 i)) (fun i hi => ⟨if_neg (by omega), if_neg (by omega)⟩) (if_pos rfl) (if_pos rfl)] at hP hD
  refine lv_dup hx hb dX3_init_19 rfl ?_
  have ec : [31].filterMap (fun i => (cW (31 + 1) (fun i => if i = 31 then q else a1 i) (fun i => if i = 31 then rawS else vE Γ (.inr (3, [.ref (a1 1), .null, .null, .int (i32 0), .null])) rawV a1 i))[i]?) = [(q, rawS)] := by rw [cW_cutf]; simp
  have em : [31].map (fun i => (cW (31 + 1) (fun i => if i = 31 then q else a1 i) (fun i => if i = 31 then rawS else vE Γ (.inr (3, [.ref (a1 1), .null, .null, .int (i32 0), .null])) rawV a1 i))[i]?) = [(q, rawS)].map some := by rw [cW_cut]; simp
  have hPc := hP.sub (ws' := [(q, rawS)]) [31] ec
  have hDc := hD.sub (ws' := [(q, rawS)]) [31] (nd_range _ (List.nodup_cons.mpr ⟨List.not_mem_nil, List.nodup_nil⟩)) em
  have hFc := va_free (wc := [(q, rawS)]) hD hS hA [31] em
  have hkc2 : 30 + 1 + 29 ≤ rmcV.cells := by show 30 + 1 + 29 ≤ 213; omega
  have hks2 : 314 + 7 + 307 ≤ rmcV.slots := by show 314 + 7 + 307 ≤ 2368; omega
  refine va_callv (va_runI (As := []) (rest := [.ref q, .ref h0]) ⟨hx, hb, hml, hown, hts⟩ (cScene l Γ q H.size) (cwI 0 hts gX3_init_X0_init rfl rfl rfl (hts (.initialized RX0) (by decide +kernel)) (hts (.methodLink RX3 9 yX0_init) (by decide +kernel)) (hts (.instanceMethod yX0_init) (by decide +kernel)) rfl (by decide +kernel) ⟨Nat.le_of_ble_eq_true rfl, Nat.le_of_ble_eq_true rfl⟩) ⟨cP_blind, fun U hU hW => ⟨rfl, by rw [hU], by rw [hU]; exact hPc, va_K.moved hW.alike hK, hDc.weaken (fun _ _ _ _ => trivial), hX.warm hW⟩⟩ rfl rfl hl.1 rfl (lv_room (Nat.le_of_ble_eq_true rfl)) dX3_init_20 ⟨hkc2, hks2⟩) hS (fun q _ h => hFc q h) hFc (fun u t H1 locs ht hvm h5 hB hz1 hk1 hS => ?_)
  obtain ⟨hP1, hD1⟩ := hB
  rw [ht] at hP1
  have ej : [((fun i => if i = 31 then q else a1 i) 31, (fun i => if i = 31 then rawS else vE Γ (.inr (3, [.ref (a1 1), .null, .null, .int (i32 0), .null])) rawV a1 i) 31)] = [(q, rawS)] := by simp
  obtain ⟨hP, hD⟩ := cW_join hP hD (by rw [ej]; exact hk1) (by rw [ej]; exact hFc) hP1 (by rw [ej]; exact hD1)
  rw [addS (Γ := Γ) (ad := a1) (e0 := (.inr (3, [.ref (a1 1), .null, .null, .int (i32 0), .null]))) (e61 := rawV) (Or.inr (Or.inl rfl)) (fun i hi => ⟨if_neg (by omega), if_neg (by omega)⟩)] at hP hD
  obtain ⟨a2, ea2⟩ : ∃ a9 : Nat → Nat, a9 = fun k => if k < 31 then a1 k else u (k - 31) := ⟨_, rfl⟩
  rw [← ea2] at hP hD
  have oa2 : ∀ i, i < 31 → a2 i = a1 i := fun i hi => by rw [ea2]; exact if_pos hi
  have qa2 : a2 (31) = q := by rw [ea2]; show (if 31 < 31 then _ else u (31 - 31)) = q; rw [if_neg (by omega), Nat.sub_self]; exact h5
  clear hP1 hD1 hk1 ht hFc hPc hDc ec em ej ea2 h5
  generalize H1 = H at hP hS ⊢
  rw [← qa2]
  have h0a : a2 0 = h0 := (oa2 0 (by decide)).trans h0a
  have h1a : a1 1 = a2 1 := (oa2 1 (by decide)).symm
  refine va_putF (D := Γ.2.2.1) (ci := 3) (v := .ref (a2 31)) (ty := (.object "VoiceWords$Scene")) (C := RX3) (T := TX3) (N := 5) hx hb hts (by decide +kernel) tyX3 tyX3_ok nmX3 hown hK hP hD hS 0 (cW_at (by omega) h0a vE_0) rfl 1 (by decide) (hts (.fieldLink RX3 16 "VoiceWords" "draft" "LVoiceWords$Scene;") (by decide +kernel)) (fun _ h9 => h9) rfl hin rfl (by decide +kernel) rfl rfl (Nat.le_of_ble_eq_true rfl) dX3_init_23 (fun H locs hP hD hS => ?_)
  rw [set0 h0a] at hP hD
  rw [h1a] at hP hD
  refine W.widen (k := 60) (n := 628) (by decide) (by decide) ?_
  refine lv_aload_n hx hb dX3_init_26 rfl (lv_at hl 0 rfl) ?_
  have hP : va_P Γ.2.2.1 vwCl (cW 61 a2 (vE Γ (.inr (3, [.ref (a2 1), .ref (a2 31), .null, .int (i32 0), .null])) rawV a2)) H := hP
  have hD : va_D _ (cW 61 a2 (vE Γ (.inr (3, [.ref (a2 1), .ref (a2 31), .null, .int (i32 0), .null])) rawV a2)) := hD
  refine lv_iconst (v := i32 5) hx hb dX3_init_27 rfl ?_
  refine va_newq (C := RX0) (N' := 5) hx hb hown (hts (.classLink RX3 7 RX0) (by decide +kernel)) hX.2.1 hK hP hD hS hA (by decide) (by decide) (by decide) (Nat.le_of_ble_eq_true rfl) (Nat.le_of_ble_eq_true rfl) dX3_init_28 (fun q cA H hK hP hD hS => ?_)
  obtain rfl := cA_scene hK
  have hK := cK_4 hK
  obtain ⟨a3, ea3⟩ : ∃ a9 : Nat → Nat, a9 = fun k => if k = 61 then q else a2 k := ⟨_, rfl⟩
  have o3 : ∀ i, i < 61 → a3 i = a2 i := fun i hi => by rw [ea3]; exact if_neg (by omega)
  have q3 : a3 61 = q := by rw [ea3]; exact if_pos rfl
  have e62 : cW 61 a2 (vE Γ (.inr (3, [.ref (a2 1), .ref (a2 31), .null, .int (i32 0), .null])) rawV a2) ++ [(q, .inl (Γ.2.1 2, 5, .inr (.inr (.inr (.inr (fun _ => none))))))] = cW 62 a3 (vE Γ (.inr (3, [.ref (a3 1), .ref (a3 31), .null, .int (i32 0), .null])) (hE Γ 0 a3) a3) := by
    refine cW_push (fun i hi => ⟨o3 i hi, ?_⟩) q3 ?_
    · by_cases z0 : i = 0
      · rw [z0, vE_0, vE_0, o3 1 (by decide), o3 31 (by decide)]
      · have z1 : i ≠ 61 := by omega
        rw [vE_s z0 z1 (by omega), vE_s z0 z1 (by omega)]
        exact sE_c (n := 12) (fun x hx => o3 _ (by have hb9 := sbk_b z0 z1; unfold sb at *; (repeat' split at *) <;> omega)) (Nat.le_refl _) (by have := sbk_b z0 z1; omega)
    · rw [vE_61]; unfold hE; exact congrArg (fun z => (Sum.inl (Γ.2.1 2, 5, Sum.inr (Sum.inr (Sum.inr (Sum.inr z)))) : va_E)) (funext fun x => if_neg (by omega))
  rw [e62] at hP hD
  rw [← q3]
  have h0a : a3 0 = h0 := (o3 0 (by decide)).trans h0a
  refine va_putF (D := Γ.2.2.1) (ci := 3) (v := .ref (a3 61)) (ty := (.array (.object "VoiceWords$Scene"))) (C := RX3) (T := TX3) (N := 5) hx hb hts (by decide +kernel) tyX3 tyX3_ok nmX3 hown hK hP hD hS 0 (cW_at (by omega) h0a vE_0) rfl 2 (by decide) (hts (.fieldLink RX3 19 "VoiceWords" "history" "[LVoiceWords$Scene;") (by decide +kernel)) (fun _ h9 => h9) rfl hin rfl (by decide +kernel) rfl rfl (Nat.le_of_ble_eq_true rfl) dX3_init_31 (fun H locs hP hD hS => ?_)
  rw [set0 h0a] at hP hD
  refine W.widen (k := 61 + 30 * 0) (n := 633 + 314 * 0) (by decide) (by decide) ?_
  have hP : va_P Γ.2.2.1 vwCl (cW (62 + 30 * 0) a3 (vE Γ (e0L a3) (hE Γ 0 a3) a3)) H := hP
  have hD : va_D _ (cW (62 + 30 * 0) a3 (vE Γ (e0L a3) (hE Γ 0 a3) a3)) := hD
  refine lv_iconst (v := i32 0) hx hb dX3_init_34 rfl ?_
  refine lv_istore_n hx hb dX3_init_35 rfl hl (by decide) rfl (fun ls hl => ?_)
  have lp : ∀ (k j : Nat), j + k = 5 → ∀ (ad : Nat → Nat) (H : Heap) (locs : List Loc) (ls : Array Slot), ad 0 = h0 → va_P Γ.2.2.1 vwCl (cW (62 + 30 * j) ad (vE Γ (e0L ad) (hE Γ j ad) ad)) H → va_D (va_A [(h0, rawV)] s.heap.size) (cW (62 + 30 * j) ad (vE Γ (e0L ad) (hE Γ j ad) ad)) → va_S (va_A [(h0, rawV)] s.heap.size) s.heap H locs → lv_has ls 2 [(0, .ref h0), (1, .int (i32 (j : Int)))] → W p l e rmcV s m #[Value.ref h0] below meth c H locs (61 + 30 * j) (633 + 314 * j) (MQ below (cQ Γ h0 s.heap.size rawV (fun ad => cW 214 ad (vE Γ (finV ad) (hE Γ 5 ad) ad))) #[Value.ref h0] s 213 2368 (va_A [(h0, rawV)] s.heap.size)) (F0 m 36 ls []) := by
    intro k
    induction k with
    | zero =>
      intro j hj ad H locs ls h0a hP hD hS hl
      obtain rfl : j = 5 := by omega
      refine lv_iload_n hx hb dX3_init_36 rfl (lv_at hl 1 rfl) ?_
      refine lv_iconst (v := i32 5) hx hb dX3_init_37 rfl ?_
      refine lv_icmp_ge (tgt := 60) hx hb dX3_init_38 (by decide) (fun _ => ?_) (fun z => absurd ((i32_le (a := 5) (b := ((5 : Nat) : Int)) (by decide) (by decide)).mpr (by decide)) (by first | exact z | simpa using z))
      refine lv_aload_n hx hb dX3_init_60 rfl (lv_at hl 0 rfl) ?_
      refine lv_iconst (v := i32 0) hx hb dX3_init_61 rfl ?_
      refine va_put (D := Γ.2.2.1) (ci := 3) (v := .int (i32 0)) (ty := .int) (C := RX3) (T := TX3) (N := 5) hx hb hts (by decide +kernel) tyX3 tyX3_ok nmX3 hown hK hP hD hS 0 (cW_at (by omega) h0a vE_0) rfl 3 (by decide) (hts (.fieldLink RX3 23 "VoiceWords" "states" "I") (by decide +kernel)) (fun _ h9 => h9) rfl (by decide +kernel) rfl rfl (Nat.le_of_ble_eq_true rfl) dX3_init_62 (fun H locs hP hD hS => ?_)
      rw [set0 h0a] at hP hD
      have hP : va_P Γ.2.2.1 vwCl (cW 212 ad (vE Γ (e0L ad) (hE Γ 5 ad) ad)) H := hP
      have hD : va_D _ (cW 212 ad (vE Γ (e0L ad) (hE Γ 5 ad) ad)) := hD
      refine lv_aload_n hx hb dX3_init_65 rfl (lv_at hl 0 rfl) ?_
      refine va_new (ci := 1) (fs := [.null, .int (i32 0), .int (i32 0), .int (i32 0), .int (i32 0)]) (C := RX1) (T := TX1) (N := 5) hx hb hts (by decide +kernel) tyX1 tyX1_ok hown (hts (.classLink RX3 27 RX1) (by decide +kernel)) (hts (.instantiable RX1 5) (by decide +kernel)) (hts (.initialized RX1) (by decide +kernel)) hK hP hD hS hA rfl (fun j hj => by have hj9 : j = 0 ∨ j = 1 ∨ j = 2 ∨ j = 3 ∨ j = 4 := (by omega); rcases hj9 with rfl | rfl | rfl | rfl | rfl <;> rfl) (Nat.le_of_ble_eq_true rfl) (Nat.le_of_ble_eq_true rfl) dX3_init_66 (fun q H hP hD hS => ?_)
      rw [cW_push (ad := (fun i => if i = 212 then q else ad i)) (J := (fun i => if i = 212 then rawT else vE Γ (e0L ad) (hE Γ 5 ad) ad i)) (fun i hi => ⟨if_neg (by omega), if_neg (by omega)⟩) (if_pos rfl) (if_pos rfl)] at hP hD
      refine lv_dup hx hb dX3_init_69 rfl ?_
      have ec : [212].filterMap (fun i => (cW (212 + 1) (fun i => if i = 212 then q else ad i) (fun i => if i = 212 then rawT else vE Γ (e0L ad) (hE Γ 5 ad) ad i))[i]?) = [(q, rawT)] := by rw [cW_cutf]; simp
      have em : [212].map (fun i => (cW (212 + 1) (fun i => if i = 212 then q else ad i) (fun i => if i = 212 then rawT else vE Γ (e0L ad) (hE Γ 5 ad) ad i))[i]?) = [(q, rawT)].map some := by rw [cW_cut]; simp
      have hPc := hP.sub (ws' := [(q, rawT)]) [212] ec
      have hDc := hD.sub (ws' := [(q, rawT)]) [212] (nd_range _ (List.nodup_cons.mpr ⟨List.not_mem_nil, List.nodup_nil⟩)) em
      have hFc := va_free (wc := [(q, rawT)]) hD hS hA [212] em
      refine va_callv (va_runIN (As := []) (rest := [.ref q, .ref h0]) ⟨hx, hb, hml, hown, hts⟩ (cText l Γ q H.size) ⟨va_cnB 0 hts gX3_init_X1_init_n29 rfl rfl rfl hX.2.2.1 (hts (.initialized RX1) (by decide +kernel)) ⟨by decide +kernel, by decide +kernel, by decide +kernel⟩ ⟨Nat.le_of_ble_eq_true rfl, Nat.le_of_ble_eq_true rfl⟩, rfl, hts (.instanceMethod yX1_init) (by decide +kernel)⟩ ⟨cP_blind, fun U hU hW => ⟨rfl, by rw [hU], by rw [hU]; exact hPc, va_K.moved hW.alike hK, hDc.weaken (fun _ _ _ _ => trivial), hX.warm hW⟩⟩ rfl rfl hl.1 rfl (lv_room (Nat.le_of_ble_eq_true rfl)) dX3_init_70 ⟨Nat.le_of_ble_eq_true rfl, Nat.le_of_ble_eq_true rfl⟩) hS (fun q _ h => hFc q h) hFc (fun u t H1 locs ht hvm h5 hB hz1 hk1 hS => ?_)
      obtain ⟨hP1, hD1⟩ := hB
      rw [ht] at hP1
      have ej : [((fun i => if i = 212 then q else ad i) 212, (fun i => if i = 212 then rawT else vE Γ (e0L ad) (hE Γ 5 ad) ad i) 212)] = [(q, rawT)] := by simp
      obtain ⟨hP, hD⟩ := cW_join hP hD (by rw [ej]; exact hk1) (by rw [ej]; exact hFc) hP1 (by rw [ej]; exact hD1)
      obtain ⟨ad2, had2⟩ : ∃ a9 : Nat → Nat, a9 = fun k => if k < 212 then ad k else if k = 212 then q else u 1 := ⟨_, rfl⟩
      have ao : ∀ i, i < 212 → ad2 i = ad i := fun i hi => by rw [had2]; exact if_pos hi
      have a12 : ad2 212 = q := by rw [had2]; rfl
      have a13 : ad2 213 = u 1 := by rw [had2]; rfl
      have ehE : hE Γ 5 ad = hE Γ 5 ad2 := by unfold hE; exact congrArg (fun z => (Sum.inl (Γ.2.1 2, 5, Sum.inr (Sum.inr (Sum.inr (Sum.inr z)))) : va_E)) (funext fun x => by by_cases hx9 : x < 5; (rw [if_pos hx9, if_pos hx9, ao _ (by omega)]); (rw [if_neg hx9, if_neg hx9]))
      have ee0 : e0L ad = e0L ad2 := by show (Sum.inr (3, [.ref (ad 1), .ref (ad 31), .ref (ad 61), .int (i32 0), .null]) : va_E) = Sum.inr (3, [.ref (ad2 1), .ref (ad2 31), .ref (ad2 61), .int (i32 0), .null]); rw [ao 1 (by decide), ao 31 (by decide), ao 61 (by decide)]
      have ew : cW 212 (fun i => if i = 212 then q else ad i) (fun i => if i = 212 then rawT else vE Γ (e0L ad) (hE Γ 5 ad) ad i) ++ [(u 0, finT (u 1)), (u 1, arrI Γ 160)] = cW 214 ad2 (vE Γ (e0L ad2) (hE Γ 5 ad2) ad2) := cW_app (n := 212) (m := 2) (ad2 := fun i => if i = 0 then u 0 else u 1) (J2 := fun i => if i = 0 then finT (u 1) else arrI Γ 160) (fun i hi => ⟨by rw [ao i hi]; exact (if_neg (by omega)).symm, by rw [← ehE, ← ee0, vE_c (n := 212) ao hi (fun z0 z1 _ => by have := sbk_b z0 z1; unfold sb at *; (repeat' split at this) <;> (repeat' split) <;> omega) (fun z => by omega) (by omega)]; exact (if_neg (by omega)).symm⟩) (fun i hi => by
        have hi2 : i = 0 ∨ i = 1 := by omega
        rcases hi2 with rfl | rfl
        · exact ⟨by rw [show 212 + 0 = 212 from rfl, a12]; exact h5.symm, by rw [show 212 + 0 = 212 from rfl]; unfold vE; rw [if_neg (by decide), if_neg (by decide), if_pos rfl, a13]; rfl⟩
        · exact ⟨by rw [show 212 + 1 = 213 from rfl, a13]; rfl, by rw [show 212 + 1 = 213 from rfl]; unfold vE; rw [if_neg (by decide), if_neg (by decide), if_neg (by decide), if_pos rfl]; rfl⟩)
      rw [ew] at hP hD
      clear ew hP1 hD1 hk1 ht hFc hPc hDc ec em ej
      generalize H1 = H at hP hS ⊢
      rw [← a12]
      have h0a : ad2 0 = h0 := (ao 0 (by decide)).trans h0a
      refine va_putF (D := Γ.2.2.1) (ci := 3) (v := .ref (ad2 212)) (ty := (.object "VoiceWords$Text")) (C := RX3) (T := TX3) (N := 5) hx hb hts (by decide +kernel) tyX3 tyX3_ok nmX3 hown hK hP hD hS 0 (cW_at (by omega) h0a vE_0) rfl 4 (by decide) (hts (.fieldLink RX3 30 "VoiceWords" "text" "LVoiceWords$Text;") (by decide +kernel)) (fun _ h9 => h9) rfl hin rfl (by decide +kernel) rfl rfl (Nat.le_of_ble_eq_true rfl) dX3_init_73 (fun H locs hP hD hS => ?_)
      rw [set0 h0a] at hP hD
      refine W.widen (k := 213) (n := 2368) (by decide) (by decide) ?_
      exact W.vret hx hb hr (fun t ht hW => ⟨⟨ad2, rfl, h0a, by rw [ht]; exact hP, hD⟩, hS.F ht⟩) hS.2.2 dX3_init_76
    | succ k ih =>
      intro j hj ad H locs ls h0a hP hD hS hl
      refine lv_iload_n hx hb dX3_init_36 rfl (lv_at hl 1 rfl) ?_
      refine lv_iconst (v := i32 5) hx hb dX3_init_37 rfl ?_
      refine lv_icmp_ge (tgt := 60) hx hb dX3_init_38 (by decide) (fun z => absurd ((i32_le (a := 5) (b := (j : Int)) (by decide) (by omega)).mp (by first | exact z | simpa using z)) (by omega)) (fun _ => ?_)
      refine lv_aload_n hx hb dX3_init_41 rfl (lv_at hl 0 rfl) ?_
      refine va_get (D := Γ.2.2.1) (ci := 3) (v := .ref (ad 61)) (C := RX3) (T := TX3) (N := 5) hx hb hts (by decide +kernel) hown hK hP 0 (cW_at (by omega) h0a vE_0) rfl 2 (by decide) (hts (.fieldLink RX3 19 "VoiceWords" "history" "[LVoiceWords$Scene;") (by decide +kernel)) (fun _ h9 => h9) rfl dX3_init_42 ?_
      refine lv_iload_n hx hb dX3_init_45 rfl (lv_at hl 1 rfl) ?_
      have hkc1 : (61 + 30 * j) + 1 ≤ rmcV.cells := by show (61 + 30 * j) + 1 ≤ 213; omega
      have hks1 : (633 + 314 * j) + 7 ≤ rmcV.slots := by show (633 + 314 * j) + 7 ≤ 2368; omega
      refine va_new (ci := 0) (fs := [.null, .int (i32 0), .null, .int (i32 0), .int (i32 0), .null, .null]) (C := RX0) (T := TX0) (N := 7) hx hb hts (by decide +kernel) tyX0 tyX0_ok hown (hts (.classLink RX3 7 RX0) (by decide +kernel)) (hts (.instantiable RX0 7) (by decide +kernel)) (hts (.initialized RX0) (by decide +kernel)) hK hP hD hS hA rfl (fun j hj => by have hj9 : j = 0 ∨ j = 1 ∨ j = 2 ∨ j = 3 ∨ j = 4 ∨ j = 5 ∨ j = 6 := (by omega); rcases hj9 with rfl | rfl | rfl | rfl | rfl | rfl | rfl <;> rfl) hkc1 hks1 dX3_init_46 (fun q H hP hD hS => ?_)
      rw [cW_push (ad := (fun i => if i = (62 + 30 * j) then q else ad i)) (J := (fun i => if i = (62 + 30 * j) then rawS else vE Γ (e0L ad) (hE Γ j ad) ad i)) (fun i hi => ⟨if_neg (by omega), if_neg (by omega)⟩) (if_pos rfl) (if_pos rfl)] at hP hD
      refine lv_dup hx hb dX3_init_49 rfl ?_
      have ec : [(62 + 30 * j)].filterMap (fun i => (cW ((62 + 30 * j) + 1) (fun i => if i = (62 + 30 * j) then q else ad i) (fun i => if i = (62 + 30 * j) then rawS else vE Γ (e0L ad) (hE Γ j ad) ad i))[i]?) = [(q, rawS)] := by rw [cW_cutf]; simp
      have em : [(62 + 30 * j)].map (fun i => (cW ((62 + 30 * j) + 1) (fun i => if i = (62 + 30 * j) then q else ad i) (fun i => if i = (62 + 30 * j) then rawS else vE Γ (e0L ad) (hE Γ j ad) ad i))[i]?) = [(q, rawS)].map some := by rw [cW_cut]; simp
      have hPc := hP.sub (ws' := [(q, rawS)]) [(62 + 30 * j)] ec
      have hDc := hD.sub (ws' := [(q, rawS)]) [(62 + 30 * j)] (nd_range _ (List.nodup_cons.mpr ⟨List.not_mem_nil, List.nodup_nil⟩)) em
      have hFc := va_free (wc := [(q, rawS)]) hD hS hA [(62 + 30 * j)] em
      have hkc2 : (61 + 30 * j) + 1 + 29 ≤ rmcV.cells := by show (61 + 30 * j) + 1 + 29 ≤ 213; omega
      have hks2 : (633 + 314 * j) + 7 + 307 ≤ rmcV.slots := by show (633 + 314 * j) + 7 + 307 ≤ 2368; omega
      refine va_callv (va_runI (As := []) (rest := [.ref q, .int (i32 (j : Int)), .ref (ad 61)]) ⟨hx, hb, hml, hown, hts⟩ (cScene l Γ q H.size) (cwI 0 hts gX3_init_X0_init rfl rfl rfl (hts (.initialized RX0) (by decide +kernel)) (hts (.methodLink RX3 9 yX0_init) (by decide +kernel)) (hts (.instanceMethod yX0_init) (by decide +kernel)) rfl (by decide +kernel) ⟨Nat.le_of_ble_eq_true rfl, Nat.le_of_ble_eq_true rfl⟩) ⟨cP_blind, fun U hU hW => ⟨rfl, by rw [hU], by rw [hU]; exact hPc, va_K.moved hW.alike hK, hDc.weaken (fun _ _ _ _ => trivial), hX.warm hW⟩⟩ rfl rfl hl.1 rfl (lv_room (Nat.le_of_ble_eq_true rfl)) dX3_init_50 ⟨hkc2, hks2⟩) hS (fun q _ h => hFc q h) hFc (fun u t H1 locs ht hvm h5 hB hz1 hk1 hS => ?_)
      obtain ⟨hP1, hD1⟩ := hB
      rw [ht] at hP1
      have ej : [((fun i => if i = (62 + 30 * j) then q else ad i) (62 + 30 * j), (fun i => if i = (62 + 30 * j) then rawS else vE Γ (e0L ad) (hE Γ j ad) ad i) (62 + 30 * j))] = [(q, rawS)] := by simp
      obtain ⟨hP, hD⟩ := cW_join hP hD (by rw [ej]; exact hk1) (by rw [ej]; exact hFc) hP1 (by rw [ej]; exact hD1)
      rw [addS (Γ := Γ) (ad := ad) (e0 := (e0L ad)) (e61 := (hE Γ j ad)) (Or.inr (Or.inr ⟨j, by omega, rfl⟩)) (fun i hi => ⟨if_neg (by omega), if_neg (by omega)⟩)] at hP hD
      obtain ⟨ad2, ead2⟩ : ∃ a9 : Nat → Nat, a9 = fun k => if k < (62 + 30 * j) then ad k else u (k - (62 + 30 * j)) := ⟨_, rfl⟩
      rw [← ead2] at hP hD
      have oad2 : ∀ i, i < (62 + 30 * j) → ad2 i = ad i := fun i hi => by rw [ead2]; exact if_pos hi
      have qad2 : ad2 ((62 + 30 * j)) = q := by rw [ead2]; show (if (62 + 30 * j) < (62 + 30 * j) then _ else u ((62 + 30 * j) - (62 + 30 * j))) = q; rw [if_neg (by omega), Nat.sub_self]; exact h5
      clear hP1 hD1 hk1 ht hFc hPc hDc ec em ej ead2 h5
      generalize H1 = H at hP hS ⊢
      rw [← qad2]
      have ehE : hE Γ j ad = hE Γ j ad2 := by unfold hE; exact congrArg (fun z => (Sum.inl (Γ.2.1 2, 5, Sum.inr (Sum.inr (Sum.inr (Sum.inr z)))) : va_E)) (funext fun x => by by_cases hx9 : x < j; (rw [if_pos hx9, if_pos hx9, oad2 _ (by omega)]); (rw [if_neg hx9, if_neg hx9]))
      have ee0 : e0L ad = e0L ad2 := by show (Sum.inr (3, [.ref (ad 1), .ref (ad 31), .ref (ad 61), .int (i32 0), .null]) : va_E) = Sum.inr (3, [.ref (ad2 1), .ref (ad2 31), .ref (ad2 61), .int (i32 0), .null]); rw [oad2 1 (by omega), oad2 31 (by omega), oad2 61 (by omega)]
      rw [ehE, ee0] at hP hD
      rw [← oad2 61 (by omega)]
      have esc : vE Γ (e0L ad2) (hE Γ j ad2) ad2 (62 + 30 * j) = sE Γ 12 (fun i => ad2 (62 + 30 * j + i)) 0 := by have c := nxt_c (Or.inr (Or.inr ⟨j, by omega, rfl⟩) : nxt (62 + 30 * j)); rw [vE_s (by omega) (by omega) (by omega)]; have c2 := c.2.1 0 (by decide); rw [Nat.add_zero] at c2; rw [c2, Nat.sub_self]
      refine va_astq (D := Γ.2.2.1) (r := (RX0, TX0, 7)) hx hb hK hP hD hS 61 2 (62 + 30 * j) 0 (cW_at (by omega) rfl vE_61) rfl (cW_at (by omega) rfl esc) rfl (i32_in (by omega) (by decide)) dX3_init_53 (fun H locs hP hD hS => ?_)
      rw [set61 rfl] at hP hD
      have eh2 : (.inl (Γ.2.1 2, 5, .inr (.inr (.inr (.inr (va_up (fun x => if x < j then some (ad2 (62 + 30 * x)) else none) (i32 (j : Int)).toNatClampNeg (some (ad2 (62 + 30 * j)))))))) : va_E) = hE Γ (j + 1) ad2 := by
        have ec : (i32 (j : Int)).toNatClampNeg = j := by have := i32_clamp (a := (j : Int)) (by omega); omega
        unfold hE
        rw [ec]
        refine congrArg (fun z => (Sum.inl (Γ.2.1 2, 5, Sum.inr (Sum.inr (Sum.inr (Sum.inr z)))) : va_E)) (funext fun x => ?_)
        unfold va_up
        by_cases hx9 : x = j
        · subst hx9; rw [if_pos (show x < x + 1 by omega)]; simp
        · by_cases hx8 : x < j
          · rw [if_pos (show x < j + 1 by omega)]; simp [hx9, hx8]
          · rw [if_neg (show ¬ x < j + 1 by omega)]; simp [hx9, hx8]
      rw [eh2] at hP hD
      refine lv_iinc hx hb dX3_init_54 hl (k := 1) rfl (i32_add (j : Int) 1) (by decide) rfl (fun ls' hl' => ?_)
      refine lv_goto (tgt := 36) hx hb dX3_init_57 (by decide) ?_
      refine W.widen (k := 61 + 30 * (j + 1)) (n := 633 + 314 * (j + 1)) (by omega) (by omega) ?_
      exact ih (j + 1) (by omega) ad2 H locs ls' ((oad2 0 (by omega)).trans h0a) hP hD hS (lv_sub hl' [1, 0] rfl)
  exact lp 5 0 rfl a3 H locs ls h0a hP hD hS (lv_sub hl [1, 0] rfl)
