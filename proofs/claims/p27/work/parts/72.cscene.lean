/-! CTOR 2: a scene's constructor (rows laid by wip/whole/gen/ctor.py, cscene.py) -/
abbrev rawS : va_E := .inr (0, [.null, .int (i32 0), .null, .int (i32 0), .int (i32 0), .null, .null])
/-- the cells of a new scene, j of its words made -/
def sE (Γ : fG) (j : Nat) (ad : Nat → Nat) (i : Nat) : va_E := match i with
  | 0 => .inr (0, [.ref (ad 1), .int (i32 0), .ref (ad 2), .int (i32 0), .int (i32 100), .ref (ad 3), .ref (ad 5)])
  | 1 => .inl (Γ.2.1 1, 12, .inr (.inr (.inr (.inr (fun x => if x < j then some (ad (6 + 2 * x)) else none)))))
  | 2 => .inl (Γ.2.1 0, 10, .inl (fun j : Nat => i32 ((fun _ : Int => (0 : Int)) (j : Int))))
  | 3 => finW (ad 4)
  | 4 => arrI Γ 12
  | 5 => .inl (Γ.2.1 0, 12, .inl (fun j : Nat => i32 ((fun _ : Int => (0 : Int)) (j : Int))))
  | n => if n % 2 = 0 then finW (ad (n + 1)) else arrI Γ 12
theorem sE_6 {Γ : fG} {j : Nat} {ad : Nat → Nat} {n : Nat} (h : 6 ≤ n) : sE Γ j ad n = if n % 2 = 0 then finW (ad (n + 1)) else arrI Γ 12 := by
  unfold sE
  (split <;> first | omega | rfl)
theorem sE_c {Γ : fG} {j n : Nat} {ad ad' : Nat → Nat} (h : ∀ i, i < 6 + 2 * n → ad i = ad' i) (hj : j ≤ n) {i : Nat} (hi : i < 6 + 2 * n) : sE Γ j ad i = sE Γ j ad' i := by
  by_cases h6 : 6 ≤ i
  · rw [sE_6 h6, sE_6 h6]
    split
    · rw [h (i + 1) (by omega)]
    · rfl
  · have hc : i = 0 ∨ i = 1 ∨ i = 2 ∨ i = 3 ∨ i = 4 ∨ i = 5 := by omega
    rcases hc with rfl | rfl | rfl | rfl | rfl | rfl
    · show (.inr (0, [.ref (ad 1), .int (i32 0), .ref (ad 2), .int (i32 0), .int (i32 100), .ref (ad 3), .ref (ad 5)]) : va_E) = .inr (0, [.ref (ad' 1), .int (i32 0), .ref (ad' 2), .int (i32 0), .int (i32 100), .ref (ad' 3), .ref (ad' 5)])
      rw [h 1 (by omega), h 2 (by omega), h 3 (by omega), h 5 (by omega)]
    · have e : (fun x => if x < j then some (ad (6 + 2 * x)) else none) = fun x => if x < j then some (ad' (6 + 2 * x)) else none := by
        funext x
        by_cases hx : x < j
        · rw [if_pos hx, if_pos hx, h _ (by omega)]
        · rw [if_neg hx, if_neg hx]
      show (.inl (Γ.2.1 1, 12, .inr (.inr (.inr (.inr (fun x => if x < j then some (ad (6 + 2 * x)) else none))))) : va_E) = .inl (Γ.2.1 1, 12, .inr (.inr (.inr (.inr (fun x => if x < j then some (ad' (6 + 2 * x)) else none)))))
      rw [e]
    · rfl
    · show finW (ad 4) = finW (ad' 4)
      rw [h 4 (by omega)]
    · rfl
    · rfl
theorem sE_n {Γ : fG} {j : Nat} {ad : Nat → Nat} {i : Nat} (h : i ≠ 1) : sE Γ (j + 1) ad i = sE Γ j ad i := by
  by_cases h6 : 6 ≤ i
  · rw [sE_6 h6, sE_6 h6]
  · have hc : i = 0 ∨ i = 2 ∨ i = 3 ∨ i = 4 ∨ i = 5 := by omega
    rcases hc with rfl | rfl | rfl | rfl | rfl <;> rfl
def rmcS : Room := { frames := 2, cells := 29, slots := 307, locals := 40 }
set_option maxHeartbeats 4000000 in
set_option maxRecDepth 100000 in
theorem cScene (l : Launch) (Γ : fG) (h0 sz : Nat) : cMet l yX0_init wsX0_init rmcS Γ h0 sz rawS (fun ad => cW 30 ad (sE Γ 12 ad)) 29 307 := by
  refine Met.ofW (cc := cX0_init) (maxL := 2) (ret := none) (by decide +kernel) rfl ?_
  intro p e s m args below meth c s₁ B hml hv
  obtain ⟨rfl, hsz, hP, hK, hD0, hX⟩ := hv
  have hx := B.exec
  have hb := B.bytes
  have hr := B.returns
  have hts := atoms_spec (ws := wsX0_init) B.pre
  have hown : s.vm.findClass RX0 = some m.cls := findClass_of_methodNamed B.named
  have hin : meth.name = "<init>" := (name_of_methodNamed B.named B.method).1
  subst hsz
  have hD := hD0.self (sz := s.heap.size)
  have hA : ∀ q : Nat, s.heap.size ≤ q → va_A [(h0, rawS)] s.heap.size q := fun q h => Or.inr h
  have hS : va_S (va_A [(h0, rawS)] s.heap.size) s.heap s.heap [] := va_S.rf
  have hl := lv_entry ([.ref h0]) (n := 2) (Nat.le_of_ble_eq_true rfl)
  rw [lg_entry_eq]
  generalize (lg_sl ([.ref h0]) ++ List.replicate (2 - (lg_sl ([.ref h0])).length) Slot.unset).toArray = ls at hl ⊢
  have hl : lv_has ls 2 [(0, .ref h0)] := hl
  have hlen : True := trivial
  refine lv_aload_n hx hb dX0_init_0 rfl (lv_at hl 0 rfl) ?_
  refine W.objInit hx hb hown (hts (.methodLink RX0 3 objectInit) (by decide +kernel)) (hts (.instanceMethod objectInit) (by decide +kernel)) (hts _ (List.mem_cons_of_mem _ (List.mem_append_left _ (List.mem_append_left _ (List.mem_of_getElem? (i := 2) rfl))))) rfl (by rw [hml]; exact hl.1) rfl dX0_init_1 (Nat.le_of_ble_eq_true rfl) (Nat.le_of_ble_eq_true rfl) ?_
  refine W.eq (g2 := F0 m 4 ls []) rfl ?_
  refine lv_aload_n hx hb dX0_init_4 rfl (lv_at hl 0 rfl) ?_
  refine lv_bipush (v := i32 12) hx hb dX0_init_5 rfl ?_
  refine va_newq (C := RX2) (N' := 12) hx hb hown (hts (.classLink RX0 9 RX2) (by decide +kernel)) hX.1 hK hP hD hS hA (by decide) (by decide) (by decide) (Nat.le_of_ble_eq_true rfl) (Nat.le_of_ble_eq_true rfl) dX0_init_7 (fun q1 cA H hK hP hD hS => ?_)
  obtain rfl := cA_word hK
  have hK := cK_4 hK
  have hP : va_P Γ.2.2.1 vwCl [(h0, rawS), (q1, .inl (Γ.2.1 1, 12, .inr (.inr (.inr (.inr (fun _ => none))))))] H := hP
  have hD : va_D _ [(h0, rawS), (q1, .inl (Γ.2.1 1, 12, .inr (.inr (.inr (.inr (fun _ => none))))))] := hD
  refine W.widen (k := 1) (n := 12) (by decide) (by decide) ?_
  refine va_putF (D := Γ.2.2.1) (ci := 0) (v := .ref q1) (ty := (.array (.object "VoiceWords$Word"))) (C := RX0) (T := TX0) (N := 7) hx hb hts (by decide +kernel) tyX0 tyX0_ok nmX0 hown hK hP hD hS 0 rfl rfl 0 (by decide) (hts (.fieldLink RX0 11 "VoiceWords$Scene" "words" "[LVoiceWords$Word;") (by decide +kernel)) (fun _ h9 => h9) rfl hin rfl (by decide +kernel) rfl rfl (Nat.le_of_ble_eq_true rfl) dX0_init_10 (fun H locs hP hD hS => ?_)
  have hP : va_P Γ.2.2.1 vwCl [(h0, .inr (0, [.ref q1, .int (i32 0), .null, .int (i32 0), .int (i32 0), .null, .null])), (q1, .inl (Γ.2.1 1, 12, .inr (.inr (.inr (.inr (fun _ => none))))))] H := hP
  have hD : va_D _ [(h0, .inr (0, [.ref q1, .int (i32 0), .null, .int (i32 0), .int (i32 0), .null, .null])), (q1, .inl (Γ.2.1 1, 12, .inr (.inr (.inr (.inr (fun _ => none))))))] := hD
  refine lv_aload_n hx hb dX0_init_13 rfl (lv_at hl 0 rfl) ?_
  refine lv_bipush (v := i32 10) hx hb dX0_init_14 rfl ?_
  refine va_newa (atype := .int) (ty := .int) (N' := 10) (a0 := (10, .inl (fun j : Nat => i32 ((fun _ : Int => (0 : Int)) (j : Int))))) hx hb (hts (.arrayClass .int) (by decide +kernel)) rfl hK hP hD hS hA (fun _ => rfl) (by decide) (by decide) (by decide) (Nat.le_of_ble_eq_true rfl) (Nat.le_of_ble_eq_true rfl) dX0_init_16 (fun q2 cA H hK hP hD hS => ?_)
  obtain rfl := cA_int hK
  have hK := cK_4 hK
  have hP : va_P Γ.2.2.1 vwCl [(h0, .inr (0, [.ref q1, .int (i32 0), .null, .int (i32 0), .int (i32 0), .null, .null])), (q1, .inl (Γ.2.1 1, 12, .inr (.inr (.inr (.inr (fun _ => none)))))), (q2, .inl (Γ.2.1 0, 10, .inl (fun j : Nat => i32 ((fun _ : Int => (0 : Int)) (j : Int)))))] H := hP
  have hD : va_D _ [(h0, .inr (0, [.ref q1, .int (i32 0), .null, .int (i32 0), .int (i32 0), .null, .null])), (q1, .inl (Γ.2.1 1, 12, .inr (.inr (.inr (.inr (fun _ => none)))))), (q2, .inl (Γ.2.1 0, 10, .inl (fun j : Nat => i32 ((fun _ : Int => (0 : Int)) (j : Int)))))] := hD
  refine W.widen (k := 2) (n := 22) (by decide) (by decide) ?_
  refine va_putF (D := Γ.2.2.1) (ci := 0) (v := .ref q2) (ty := (.array .int)) (C := RX0) (T := TX0) (N := 7) hx hb hts (by decide +kernel) tyX0 tyX0_ok nmX0 hown hK hP hD hS 0 rfl rfl 2 (by decide) (hts (.fieldLink RX0 17 "VoiceWords$Scene" "shots" "[I") (by decide +kernel)) (fun _ h9 => h9) rfl hin rfl (by decide +kernel) rfl rfl (Nat.le_of_ble_eq_true rfl) dX0_init_18 (fun H locs hP hD hS => ?_)
  have hP : va_P Γ.2.2.1 vwCl [(h0, .inr (0, [.ref q1, .int (i32 0), .ref q2, .int (i32 0), .int (i32 0), .null, .null])), (q1, .inl (Γ.2.1 1, 12, .inr (.inr (.inr (.inr (fun _ => none)))))), (q2, .inl (Γ.2.1 0, 10, .inl (fun j : Nat => i32 ((fun _ : Int => (0 : Int)) (j : Int)))))] H := hP
  have hD : va_D _ [(h0, .inr (0, [.ref q1, .int (i32 0), .ref q2, .int (i32 0), .int (i32 0), .null, .null])), (q1, .inl (Γ.2.1 1, 12, .inr (.inr (.inr (.inr (fun _ => none)))))), (q2, .inl (Γ.2.1 0, 10, .inl (fun j : Nat => i32 ((fun _ : Int => (0 : Int)) (j : Int)))))] := hD
  refine lv_aload_n hx hb dX0_init_21 rfl (lv_at hl 0 rfl) ?_
  refine lv_bipush (v := i32 100) hx hb dX0_init_22 rfl ?_
  refine va_put (D := Γ.2.2.1) (ci := 0) (v := .int (i32 100)) (ty := .int) (C := RX0) (T := TX0) (N := 7) hx hb hts (by decide +kernel) tyX0 tyX0_ok nmX0 hown hK hP hD hS 0 rfl rfl 4 (by decide) (hts (.fieldLink RX0 21 "VoiceWords$Scene" "percent" "I") (by decide +kernel)) (fun _ h9 => h9) rfl (by decide +kernel) rfl rfl (Nat.le_of_ble_eq_true rfl) dX0_init_24 (fun H locs hP hD hS => ?_)
  have hP : va_P Γ.2.2.1 vwCl [(h0, .inr (0, [.ref q1, .int (i32 0), .ref q2, .int (i32 0), .int (i32 100), .null, .null])), (q1, .inl (Γ.2.1 1, 12, .inr (.inr (.inr (.inr (fun _ => none)))))), (q2, .inl (Γ.2.1 0, 10, .inl (fun j : Nat => i32 ((fun _ : Int => (0 : Int)) (j : Int)))))] H := hP
  have hD : va_D _ [(h0, .inr (0, [.ref q1, .int (i32 0), .ref q2, .int (i32 0), .int (i32 100), .null, .null])), (q1, .inl (Γ.2.1 1, 12, .inr (.inr (.inr (.inr (fun _ => none)))))), (q2, .inl (Γ.2.1 0, 10, .inl (fun j : Nat => i32 ((fun _ : Int => (0 : Int)) (j : Int)))))] := hD
  refine lv_aload_n hx hb dX0_init_27 rfl (lv_at hl 0 rfl) ?_
  refine va_new (ci := 2) (fs := [.null, .int (i32 0), .int (i32 0), .int (i32 0), .int (i32 0), .int (i32 0), .int (i32 0), .int (i32 0), .int (i32 0)]) (C := RX2) (T := TX2) (N := 9) hx hb hts (by decide +kernel) tyX2 tyX2_ok hown (hts (.classLink RX0 9 RX2) (by decide +kernel)) (hts (.instantiable RX2 9) (by decide +kernel)) (hts (.initialized RX2) (by decide +kernel)) hK hP hD hS hA rfl (fun j hj => by have hj9 : j = 0 ∨ j = 1 ∨ j = 2 ∨ j = 3 ∨ j = 4 ∨ j = 5 ∨ j = 6 ∨ j = 7 ∨ j = 8 := (by omega); rcases hj9 with rfl | rfl | rfl | rfl | rfl | rfl | rfl | rfl | rfl <;> rfl) (Nat.le_of_ble_eq_true rfl) (Nat.le_of_ble_eq_true rfl) dX0_init_28 (fun q3 H hP hD hS => ?_)
  have hP : va_P Γ.2.2.1 vwCl [(h0, .inr (0, [.ref q1, .int (i32 0), .ref q2, .int (i32 0), .int (i32 100), .null, .null])), (q1, .inl (Γ.2.1 1, 12, .inr (.inr (.inr (.inr (fun _ => none)))))), (q2, .inl (Γ.2.1 0, 10, .inl (fun j : Nat => i32 ((fun _ : Int => (0 : Int)) (j : Int))))), (q3, rawW)] H := hP
  have hD : va_D _ [(h0, .inr (0, [.ref q1, .int (i32 0), .ref q2, .int (i32 0), .int (i32 100), .null, .null])), (q1, .inl (Γ.2.1 1, 12, .inr (.inr (.inr (.inr (fun _ => none)))))), (q2, .inl (Γ.2.1 0, 10, .inl (fun j : Nat => i32 ((fun _ : Int => (0 : Int)) (j : Int))))), (q3, rawW)] := hD
  refine lv_dup hx hb dX0_init_31 rfl ?_
  have hPc := hP.sub (ws' := [(q3, rawW)]) [3] rfl
  have hDc := hD.sub (ws' := [(q3, rawW)]) [3] (by decide) rfl
  have hFc := va_free (wc := [(q3, rawW)]) hD hS hA [3] rfl
  refine va_callv (va_runIN (As := []) (rest := [.ref q3, .ref h0]) ⟨hx, hb, hml, hown, hts⟩ (cWord l Γ q3 H.size) ⟨va_cnB 0 hts gX0_init_X2_init_n25 rfl rfl rfl hX.2.2.2 (hts (.initialized RX2) (by decide +kernel)) ⟨by decide +kernel, by decide +kernel, by decide +kernel⟩ ⟨Nat.le_of_ble_eq_true rfl, Nat.le_of_ble_eq_true rfl⟩, rfl, hts (.instanceMethod yX2_init) (by decide +kernel)⟩ ⟨cP_blind, fun U hU hW => ⟨rfl, by rw [hU], by rw [hU]; exact hPc, va_K.moved hW.alike hK, hDc.weaken (fun _ _ _ _ => trivial), hX.warm hW⟩⟩ rfl rfl hl.1 rfl (lv_room (Nat.le_of_ble_eq_true rfl)) dX0_init_32 ⟨(Nat.le_of_ble_eq_true rfl), (Nat.le_of_ble_eq_true rfl)⟩) hS (fun q _ h => hFc q h) hFc (fun u t H1 locs ht hvm h5 hB hz1 hk1 hS => ?_)
  obtain ⟨hP1, hD1⟩ := hB
  rw [ht] at hP1
  obtain ⟨hP, hD⟩ := va_join (wr := [(h0, .inr (0, [.ref q1, .int (i32 0), .ref q2, .int (i32 0), .int (i32 100), .null, .null])), (q1, .inl (Γ.2.1 1, 12, .inr (.inr (.inr (.inr (fun _ => none)))))), (q2, .inl (Γ.2.1 0, 10, .inl (fun j : Nat => i32 ((fun _ : Int => (0 : Int)) (j : Int)))))]) (w1 := [(u 0, finW (u 1)), (u 1, arrI Γ 12)]) hP hD [3] [0, 1, 2] rfl rfl (by decide) (by decide) hk1 hFc hP1 hD1
  rw [h5] at hP hD
  generalize u 1 = q4 at hP hD ⊢
  clear hP1 hD1 hk1 ht
  generalize H1 = H at hP hS ⊢
  have hP : va_P Γ.2.2.1 vwCl [(h0, .inr (0, [.ref q1, .int (i32 0), .ref q2, .int (i32 0), .int (i32 100), .null, .null])), (q1, .inl (Γ.2.1 1, 12, .inr (.inr (.inr (.inr (fun _ => none)))))), (q2, .inl (Γ.2.1 0, 10, .inl (fun j : Nat => i32 ((fun _ : Int => (0 : Int)) (j : Int))))), (q3, finW q4), (q4, arrI Γ 12)] H := hP
  have hD : va_D _ [(h0, .inr (0, [.ref q1, .int (i32 0), .ref q2, .int (i32 0), .int (i32 100), .null, .null])), (q1, .inl (Γ.2.1 1, 12, .inr (.inr (.inr (.inr (fun _ => none)))))), (q2, .inl (Γ.2.1 0, 10, .inl (fun j : Nat => i32 ((fun _ : Int => (0 : Int)) (j : Int))))), (q3, finW q4), (q4, arrI Γ 12)] := hD
  refine W.widen (k := 4) (n := 43) (by decide) (by decide) ?_
  refine va_putF (D := Γ.2.2.1) (ci := 0) (v := .ref q3) (ty := (.object "VoiceWords$Word")) (C := RX0) (T := TX0) (N := 7) hx hb hts (by decide +kernel) tyX0 tyX0_ok nmX0 hown hK hP hD hS 0 rfl rfl 5 (by decide) (hts (.fieldLink RX0 26 "VoiceWords$Scene" "trial" "LVoiceWords$Word;") (by decide +kernel)) (fun _ h9 => h9) rfl hin rfl (by decide +kernel) rfl rfl (Nat.le_of_ble_eq_true rfl) dX0_init_35 (fun H locs hP hD hS => ?_)
  have hP : va_P Γ.2.2.1 vwCl [(h0, .inr (0, [.ref q1, .int (i32 0), .ref q2, .int (i32 0), .int (i32 100), .ref q3, .null])), (q1, .inl (Γ.2.1 1, 12, .inr (.inr (.inr (.inr (fun _ => none)))))), (q2, .inl (Γ.2.1 0, 10, .inl (fun j : Nat => i32 ((fun _ : Int => (0 : Int)) (j : Int))))), (q3, finW q4), (q4, arrI Γ 12)] H := hP
  have hD : va_D _ [(h0, .inr (0, [.ref q1, .int (i32 0), .ref q2, .int (i32 0), .int (i32 100), .ref q3, .null])), (q1, .inl (Γ.2.1 1, 12, .inr (.inr (.inr (.inr (fun _ => none)))))), (q2, .inl (Γ.2.1 0, 10, .inl (fun j : Nat => i32 ((fun _ : Int => (0 : Int)) (j : Int))))), (q3, finW q4), (q4, arrI Γ 12)] := hD
  refine lv_aload_n hx hb dX0_init_38 rfl (lv_at hl 0 rfl) ?_
  refine lv_bipush (v := i32 12) hx hb dX0_init_39 rfl ?_
  refine va_newa (atype := .int) (ty := .int) (N' := 12) (a0 := (12, .inl (fun j : Nat => i32 ((fun _ : Int => (0 : Int)) (j : Int))))) hx hb (hts (.arrayClass .int) (by decide +kernel)) rfl hK hP hD hS hA (fun _ => rfl) (by decide) (by decide) (by decide) (Nat.le_of_ble_eq_true rfl) (Nat.le_of_ble_eq_true rfl) dX0_init_41 (fun q5 cA H hK hP hD hS => ?_)
  obtain rfl := cA_int hK
  have hK := cK_4 hK
  have hP : va_P Γ.2.2.1 vwCl [(h0, .inr (0, [.ref q1, .int (i32 0), .ref q2, .int (i32 0), .int (i32 100), .ref q3, .null])), (q1, .inl (Γ.2.1 1, 12, .inr (.inr (.inr (.inr (fun _ => none)))))), (q2, .inl (Γ.2.1 0, 10, .inl (fun j : Nat => i32 ((fun _ : Int => (0 : Int)) (j : Int))))), (q3, finW q4), (q4, arrI Γ 12), (q5, .inl (Γ.2.1 0, 12, .inl (fun j : Nat => i32 ((fun _ : Int => (0 : Int)) (j : Int)))))] H := hP
  have hD : va_D _ [(h0, .inr (0, [.ref q1, .int (i32 0), .ref q2, .int (i32 0), .int (i32 100), .ref q3, .null])), (q1, .inl (Γ.2.1 1, 12, .inr (.inr (.inr (.inr (fun _ => none)))))), (q2, .inl (Γ.2.1 0, 10, .inl (fun j : Nat => i32 ((fun _ : Int => (0 : Int)) (j : Int))))), (q3, finW q4), (q4, arrI Γ 12), (q5, .inl (Γ.2.1 0, 12, .inl (fun j : Nat => i32 ((fun _ : Int => (0 : Int)) (j : Int)))))] := hD
  refine W.widen (k := 5) (n := 55) (by decide) (by decide) ?_
  refine va_putF (D := Γ.2.2.1) (ci := 0) (v := .ref q5) (ty := (.array .int)) (C := RX0) (T := TX0) (N := 7) hx hb hts (by decide +kernel) tyX0 tyX0_ok nmX0 hown hK hP hD hS 0 rfl rfl 6 (by decide) (hts (.fieldLink RX0 30 "VoiceWords$Scene" "order" "[I") (by decide +kernel)) (fun _ h9 => h9) rfl hin rfl (by decide +kernel) rfl rfl (Nat.le_of_ble_eq_true rfl) dX0_init_43 (fun H locs hP hD hS => ?_)
  have hP : va_P Γ.2.2.1 vwCl [(h0, .inr (0, [.ref q1, .int (i32 0), .ref q2, .int (i32 0), .int (i32 100), .ref q3, .ref q5])), (q1, .inl (Γ.2.1 1, 12, .inr (.inr (.inr (.inr (fun _ => none)))))), (q2, .inl (Γ.2.1 0, 10, .inl (fun j : Nat => i32 ((fun _ : Int => (0 : Int)) (j : Int))))), (q3, finW q4), (q4, arrI Γ 12), (q5, .inl (Γ.2.1 0, 12, .inl (fun j : Nat => i32 ((fun _ : Int => (0 : Int)) (j : Int)))))] H := hP
  have hD : va_D _ [(h0, .inr (0, [.ref q1, .int (i32 0), .ref q2, .int (i32 0), .int (i32 100), .ref q3, .ref q5])), (q1, .inl (Γ.2.1 1, 12, .inr (.inr (.inr (.inr (fun _ => none)))))), (q2, .inl (Γ.2.1 0, 10, .inl (fun j : Nat => i32 ((fun _ : Int => (0 : Int)) (j : Int))))), (q3, finW q4), (q4, arrI Γ 12), (q5, .inl (Γ.2.1 0, 12, .inl (fun j : Nat => i32 ((fun _ : Int => (0 : Int)) (j : Int)))))] := hD
  have lp : ∀ (k j : Nat), j + k = 12 → ∀ (ad : Nat → Nat) (H : Heap) (locs : List Loc) (ls : Array Slot), ad 0 = h0 → va_P Γ.2.2.1 vwCl (cW (6 + 2 * j) ad (sE Γ j ad)) H → va_D (va_A [(h0, rawS)] s.heap.size) (cW (6 + 2 * j) ad (sE Γ j ad)) → va_S (va_A [(h0, rawS)] s.heap.size) s.heap H locs → lv_has ls 2 [(0, .ref h0), (1, .int (i32 (j : Int)))] → W p l e rmcS s m #[Value.ref h0] below meth c H locs (5 + 2 * j) (55 + 21 * j) (MQ below (cQ Γ h0 s.heap.size rawS (fun ad => cW 30 ad (sE Γ 12 ad))) #[Value.ref h0] s 29 307 (va_A [(h0, rawS)] s.heap.size)) (F0 m 48 ls []) := by
    intro k
    induction k with
    | zero =>
      intro j hj ad H locs ls had hP hD hS hl
      obtain rfl : j = 12 := by omega
      refine lv_iload_n hx hb dX0_init_48 rfl (lv_at hl 1 rfl) ?_
      refine lv_bipush (v := i32 12) hx hb dX0_init_49 rfl ?_
      refine lv_icmp_ge (tgt := 73) hx hb dX0_init_51 (by decide) (fun _ => ?_) (fun z => ?_)
      · exact W.vret hx hb hr (fun t ht hW => ⟨⟨ad, rfl, had, by rw [ht]; exact hP, hD⟩, hS.F ht⟩) hS.2.2 dX0_init_73
      · exact absurd ((i32_le (a := 12) (b := ((12 : Nat) : Int)) (by decide) (by decide)).mpr (by decide)) (by first | exact z | simpa using z)
    | succ k ih =>
      intro j hj ad H locs ls had hP hD hS hl
      refine lv_iload_n hx hb dX0_init_48 rfl (lv_at hl 1 rfl) ?_
      refine lv_bipush (v := i32 12) hx hb dX0_init_49 rfl ?_
      refine lv_icmp_ge (tgt := 73) hx hb dX0_init_51 (by decide) (fun z => ?_) (fun _ => ?_)
      · exact absurd ((i32_le (a := 12) (b := (j : Int)) (by decide) (by omega)).mp (by first | exact z | simpa using z)) (by omega)
      · refine lv_aload_n hx hb dX0_init_54 rfl (lv_at hl 0 rfl) ?_
        refine va_get (D := Γ.2.2.1) (ci := 0) (v := .ref (ad 1)) (C := RX0) (T := TX0) (N := 7) hx hb hts (by decide +kernel) hown hK hP 0 (cW_at (by omega) had rfl) rfl 0 (by decide) (hts (.fieldLink RX0 11 "VoiceWords$Scene" "words" "[LVoiceWords$Word;") (by decide +kernel)) (fun _ h9 => h9) rfl dX0_init_55 ?_
        refine lv_iload_n hx hb dX0_init_58 rfl (lv_at hl 1 rfl) ?_
        have hkc1 : 5 + 2 * j + 1 ≤ rmcS.cells := by show 5 + 2 * j + 1 ≤ 29; omega
        have hks1 : 55 + 21 * j + 9 ≤ rmcS.slots := by show 55 + 21 * j + 9 ≤ 307; omega
        refine va_new (ci := 2) (fs := [.null, .int (i32 0), .int (i32 0), .int (i32 0), .int (i32 0), .int (i32 0), .int (i32 0), .int (i32 0), .int (i32 0)]) (C := RX2) (T := TX2) (N := 9) hx hb hts (by decide +kernel) tyX2 tyX2_ok hown (hts (.classLink RX0 9 RX2) (by decide +kernel)) (hts (.instantiable RX2 9) (by decide +kernel)) (hts (.initialized RX2) (by decide +kernel)) hK hP hD hS hA rfl (fun j hj => by have hj9 : j = 0 ∨ j = 1 ∨ j = 2 ∨ j = 3 ∨ j = 4 ∨ j = 5 ∨ j = 6 ∨ j = 7 ∨ j = 8 := (by omega); rcases hj9 with rfl | rfl | rfl | rfl | rfl | rfl | rfl | rfl | rfl <;> rfl) hkc1 hks1 dX0_init_59 (fun q H hP hD hS => ?_)
        rw [cW_push (ad := fun i => if i = 6 + 2 * j then q else ad i) (J := fun i => if i = 6 + 2 * j then rawW else sE Γ j ad i) (fun i hi => ⟨if_neg (by omega), if_neg (by omega)⟩) (if_pos rfl) (if_pos rfl)] at hP hD
        refine lv_dup hx hb dX0_init_62 rfl ?_
        have ec : [6 + 2 * j].filterMap (fun i => (cW (6 + 2 * j + 1) (fun i => if i = 6 + 2 * j then q else ad i) (fun i => if i = 6 + 2 * j then rawW else sE Γ j ad i))[i]?) = [(q, rawW)] := by rw [cW_cutf]; simp
        have em : [6 + 2 * j].map (fun i => (cW (6 + 2 * j + 1) (fun i => if i = 6 + 2 * j then q else ad i) (fun i => if i = 6 + 2 * j then rawW else sE Γ j ad i))[i]?) = [(q, rawW)].map some := by rw [cW_cut]; simp
        have hPc := hP.sub (ws' := [(q, rawW)]) [6 + 2 * j] ec
        have hDc := hD.sub (ws' := [(q, rawW)]) [6 + 2 * j] (nd_range _ (List.nodup_cons.mpr ⟨List.not_mem_nil, List.nodup_nil⟩)) em
        have hFc := va_free (wc := [(q, rawW)]) hD hS hA [6 + 2 * j] em
        have hkc2 : 5 + 2 * j + 1 + 1 ≤ rmcS.cells := by show 5 + 2 * j + 1 + 1 ≤ 29; omega
        have hks2 : 55 + 21 * j + 9 + 12 ≤ rmcS.slots := by show 55 + 21 * j + 9 + 12 ≤ 307; omega
        refine va_callv (va_runIN (As := []) (rest := [.ref q, .int (i32 (j : Int)), .ref (ad 1)]) ⟨hx, hb, hml, hown, hts⟩ (cWord l Γ q H.size) ⟨va_cnB 0 hts gX0_init_X2_init_n25 rfl rfl rfl hX.2.2.2 (hts (.initialized RX2) (by decide +kernel)) ⟨by decide +kernel, by decide +kernel, by decide +kernel⟩ ⟨Nat.le_of_ble_eq_true rfl, Nat.le_of_ble_eq_true rfl⟩, rfl, hts (.instanceMethod yX2_init) (by decide +kernel)⟩ ⟨cP_blind, fun U hU hW => ⟨rfl, by rw [hU], by rw [hU]; exact hPc, va_K.moved hW.alike hK, hDc.weaken (fun _ _ _ _ => trivial), hX.warm hW⟩⟩ rfl rfl hl.1 rfl (lv_room (Nat.le_of_ble_eq_true rfl)) dX0_init_63 ⟨hkc2, hks2⟩) hS (fun q _ h => hFc q h) hFc (fun u t H1 locs ht hvm h5 hB hz1 hk1 hS => ?_)
        obtain ⟨hP1, hD1⟩ := hB
        rw [ht] at hP1
        have ej : [((fun i => if i = 6 + 2 * j then q else ad i) (6 + 2 * j), (fun i => if i = 6 + 2 * j then rawW else sE Γ j ad i) (6 + 2 * j))] = [(q, rawW)] := by simp
        obtain ⟨hP, hD⟩ := cW_join hP hD (by rw [ej]; exact hk1) (by rw [ej]; exact hFc) hP1 (by rw [ej]; exact hD1)
        obtain ⟨ad2, had2⟩ : ∃ ad2 : Nat → Nat, ad2 = fun i => if i = 6 + 2 * j then q else if i = 7 + 2 * j then u 1 else ad i := ⟨_, rfl⟩
        have ao : ∀ i, i < 6 + 2 * j → ad2 i = ad i := fun i hi => by rw [had2]; show (if i = 6 + 2 * j then q else if i = 7 + 2 * j then u 1 else ad i) = ad i; rw [if_neg (by omega), if_neg (by omega)]
        have a6 : ad2 (6 + 2 * j) = q := by rw [had2]; exact if_pos rfl
        have a7 : ad2 (7 + 2 * j) = u 1 := by rw [had2]; show (if 7 + 2 * j = 6 + 2 * j then q else if 7 + 2 * j = 7 + 2 * j then u 1 else _) = _; rw [if_neg (by omega), if_pos rfl]
        have ew : cW (6 + 2 * j) (fun i => if i = 6 + 2 * j then q else ad i) (fun i => if i = 6 + 2 * j then rawW else sE Γ j ad i) ++ [(u 0, finW (u 1)), (u 1, arrI Γ 12)] = cW (6 + 2 * j + 2) ad2 (sE Γ j ad2) := cW_app (m := 2) (ad2 := fun i => if i = 0 then u 0 else u 1) (J2 := fun i => if i = 0 then finW (u 1) else arrI Γ 12) (fun i hi => ⟨by rw [ao i hi]; exact (if_neg (by omega)).symm, by rw [sE_c (n := j) ao (Nat.le_refl _) hi]; exact (if_neg (by omega)).symm⟩) (fun i hi => by
          have hi2 : i = 0 ∨ i = 1 := by omega
          rcases hi2 with rfl | rfl
          · exact ⟨by rw [show 6 + 2 * j + 0 = 6 + 2 * j from rfl, a6]; exact h5.symm, by rw [show 6 + 2 * j + 0 = 6 + 2 * j from rfl, sE_6 (by omega), if_pos (by omega), show 6 + 2 * j + 1 = 7 + 2 * j by omega, a7]; rfl⟩
          · exact ⟨by rw [show 6 + 2 * j + 1 = 7 + 2 * j by omega, a7]; rfl, by rw [sE_6 (by omega), if_neg (by omega)]; rfl⟩)
        rw [ew] at hP hD
        clear ew hP1 hD1 hk1 ht hFc hPc hDc ec em ej
        generalize H1 = H at hP hS ⊢
        rw [← ao 1 (by omega), ← a6]
        refine va_astq (D := Γ.2.2.1) (r := (RX2, TX2, 9)) hx hb hK hP hD hS 1 1 (6 + 2 * j) 2 (cW_at (by omega) rfl rfl) rfl (cW_at (by omega) rfl (by rw [sE_6 (by omega), if_pos (by omega)])) rfl (i32_in (by omega) (by decide)) dX0_init_66 (fun H locs hP hD hS => ?_)
        have es : (cW (6 + 2 * j + 2) ad2 (sE Γ j ad2)).set 1 (ad2 1, .inl (Γ.2.1 1, 12, .inr (.inr (.inr (.inr (va_up (fun x => if x < j then some (ad2 (6 + 2 * x)) else none) (i32 (j : Int)).toNatClampNeg (some (ad2 (6 + 2 * j))))))))) = cW (6 + 2 * j + 2) ad2 (sE Γ (j + 1) ad2) := cW_set rfl (fun i _ hne => sE_n hne) (by
          have ec : (i32 (j : Int)).toNatClampNeg = j := by have := i32_clamp (a := (j : Int)) (by omega); omega
          have ef : (fun x => if x < j + 1 then some (ad2 (6 + 2 * x)) else none) = va_up (fun x => if x < j then some (ad2 (6 + 2 * x)) else none) (i32 (j : Int)).toNatClampNeg (some (ad2 (6 + 2 * j))) := by
            rw [ec]
            funext x
            unfold va_up
            by_cases hx9 : x = j
            · subst hx9; rw [if_pos (by omega)]; simp
            · by_cases hx8 : x < j
              · rw [if_pos (by omega)]; simp [hx9, hx8]
              · rw [if_neg (by omega)]; simp [hx9, hx8]
          show (.inl (Γ.2.1 1, 12, .inr (.inr (.inr (.inr (fun x => if x < j + 1 then some (ad2 (6 + 2 * x)) else none))))) : va_E) = _
          rw [ef])
        rw [es] at hP hD
        refine lv_iinc hx hb dX0_init_67 hl (k := 1) rfl (i32_add (j : Int) 1) (by decide) rfl (fun ls' hl' => ?_)
        refine lv_goto (tgt := 48) hx hb dX0_init_70 (by decide) ?_
        refine W.widen (k := 5 + 2 * (j + 1)) (n := 55 + 21 * (j + 1)) (by omega) (by omega) ?_
        exact ih (j + 1) (by omega) ad2 H locs ls' (by rw [ao 0 (by omega)]; exact had) hP hD hS (lv_sub hl' [1, 0] rfl)
  refine lv_iconst hx hb dX0_init_46 rfl ?_
  refine lv_istore_n hx hb dX0_init_47 rfl hl (by decide) rfl (fun ls hl => ?_)
  have e6 : cW (6 + 2 * 0) (fun i => if i = 0 then h0 else if i = 1 then q1 else if i = 2 then q2 else if i = 3 then q3 else if i = 4 then q4 else q5) (sE Γ 0 (fun i => if i = 0 then h0 else if i = 1 then q1 else if i = 2 then q2 else if i = 3 then q3 else if i = 4 then q4 else q5)) = [(h0, .inr (0, [.ref q1, .int (i32 0), .ref q2, .int (i32 0), .int (i32 100), .ref q3, .ref q5])), (q1, .inl (Γ.2.1 1, 12, .inr (.inr (.inr (.inr (fun _ => none)))))), (q2, .inl (Γ.2.1 0, 10, .inl (fun j : Nat => i32 ((fun _ : Int => (0 : Int)) (j : Int))))), (q3, finW q4), (q4, arrI Γ 12), (q5, .inl (Γ.2.1 0, 12, .inl (fun j : Nat => i32 ((fun _ : Int => (0 : Int)) (j : Int)))))] := rfl
  rw [← e6] at hP hD
  exact lp 12 0 rfl _ H locs ls rfl hP hD hS (lv_sub hl [1, 0] rfl)
