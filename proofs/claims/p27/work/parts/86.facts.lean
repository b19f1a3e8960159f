/-! FACTS: what the tables and the start say -/
theorem tbw {i : Nat} {w : Cond} (h : tables_1[i]? = some w) : w ∈ lw_tbl := List.mem_append_right _ (List.mem_of_getElem? h)
theorem fac_i {args : Array Value} {s : State} (h : (Cond.arrayClass .int).before args s = true) : ∃ cA, ArrOfT s cA .int ∧ va_RA s cA .int := by
  obtain ⟨cA, kA, comp, h1, h2, h3⟩ := Cond.arrayClass_spec h
  exact ⟨cA, fun n z => ⟨(fun k h9 => by cases h9), kA, h2, comp, h3⟩, h1⟩
theorem fac_o {C : String} {args : Array Value} {s : State} (h : (Cond.arrayOver (.object C)).before args s = true) : ∃ cA, ArrOfT s cA (.object C) ∧ va_RA s cA (.object C) := by
  obtain ⟨comp, cA, kA, h1, -, h2, h3, h4⟩ := Cond.arrayOver_spec h
  exact ⟨cA, fun n z => ⟨(fun k h9 => by cases h9), kA, h2, comp, h3⟩, kA, comp, h2, h3, h1, h4⟩
theorem fac_K {args : Array Value} {s : State} (hts : ∀ w ∈ lw_tbl, w.before args s = true) : ∃ (cA : Nat → ClassId) (D : va_G), ∀ (a c : Nat → Nat), va_K D vwCl (fty (a, cA, D, c)) s := by
  obtain ⟨c0, i0, k0⟩ := u_known (C := RX0) (T := TX0) (N := 7) hts xin_X0 (hts (.instantiable RX0 7) (tbw (i := 21) (by decide +kernel)))
  obtain ⟨c1, i1, k1⟩ := u_known (C := RX1) (T := TX1) (N := 5) hts xin_X1 (hts (.instantiable RX1 5) (tbw (i := 108) (by decide +kernel)))
  obtain ⟨c2, i2, k2⟩ := u_known (C := RX2) (T := TX2) (N := 9) hts xin_X2 (hts (.instantiable RX2 9) (tbw (i := 28) (by decide +kernel)))
  obtain ⟨c3, i3, k3⟩ := u_known (C := RX3) (T := TX3) (N := 5) hts xin_X3 (hts (.instantiable RX3 5) (tbw (i := 13) (by decide +kernel)))
  obtain ⟨a0, p0⟩ := fac_i (hts (.arrayClass .int) (tbw (i := 77) (by decide +kernel)))
  obtain ⟨a1, p1⟩ := fac_o (C := RX2) (hts (.arrayOver (.object RX2)) (tbw (i := 27) (by decide +kernel)))
  obtain ⟨a2, p2⟩ := fac_o (C := RX0) (hts (.arrayOver (.object RX0)) (tbw (i := 106) (by decide +kernel)))
  refine ⟨fun k => match k with | 0 => a0 | 1 => a1 | _ => a2, (fun k => match k with | 0 => c0 | 1 => c1 | 2 => c2 | _ => c3, fun k => match k with | 0 => i0 | 1 => i1 | 2 => i2 | _ => i3), fun a c => ⟨fun k q hq => ?_, fun k q hq => ?_⟩⟩
  · match k, hq with
    | 0, hq => cases hq; exact k0
    | 1, hq => cases hq; exact k1
    | 2, hq => cases hq; exact k2
    | 3, hq => cases hq; exact k3
    | k + 4, hq => cases hq
  · match k, hq with
    | 0, hq => cases hq; exact p0
    | 1, hq => cases hq; exact p1
    | 2, hq => cases hq; exact p2
    | k + 3, hq => cases hq
abbrev gvC : Cond := Jvm.Cond.and given_1 narrow_1
abbrev tmS (i : Nat) : Term := .string RX1 (fSt i)
abbrev tmL : Term := .static "VoiceWords" "LANE_ORDER" "[I"
abbrev tmV (i : Nat) : Term := .field (tmS i) "java/lang/String" "value" "[B"
set_option maxRecDepth 100000 in
theorem fl_L : ∀ j, j < 8 → Cond.eq (.elem tmL (.int (Int32.ofNat j))) (.int (i32 (flane j))) ∈ flatC gvC := by decide +kernel
set_option maxRecDepth 100000 in
theorem fl_ex : ∀ i, i < 6 → Cond.exactly (tmS i) "java/lang/String" ∈ flatC gvC := by decide +kernel
set_option maxRecDepth 100000 in
theorem fl_co : ∀ i, i < 6 → Cond.eq (.field (tmS i) "java/lang/String" "coder" "B") (.int 0) ∈ flatC gvC := by decide +kernel
set_option maxRecDepth 100000 in
theorem fl_ar : ∀ i, i < 6 → Cond.arrayOf (tmV i) .byte ∈ flatC gvC := by decide +kernel
set_option maxRecDepth 100000 in
theorem fl_le : ∀ i, i < 6 → Cond.eq (.length (tmV i)) (.int (Int32.ofNat (fLen.getD i 0))) ∈ flatC gvC := by decide +kernel
set_option maxRecDepth 100000 in
theorem fl_el : ∀ i, i < 6 → ∀ j, j < fLen.getD i 0 → Cond.eq (.elem (tmV i) (.int (Int32.ofNat j))) (.int ((fByt.getD i []).getD j 0)) ∈ flatC gvC := by decide +kernel
set_option maxRecDepth 100000 in
theorem fl_ne : ∀ i, i < 6 → ∀ j, j < 6 → i ≠ j → Cond.not (Cond.eq (tmS i) (tmS j)) ∈ flatC gvC ∨ Cond.not (Cond.eq (tmS j) (tmS i)) ∈ flatC gvC := by decide +kernel
set_option maxRecDepth 100000 in
theorem fl_sr : ∀ i, i < 6 → Cond.stringRef RX1 (fSt i) (fTx i) ∈ tables_1 := by decide +kernel
set_option maxHeartbeats 4000000 in
set_option maxRecDepth 100000 in
theorem fac_S {args : Array Value} {s : State} {A : Nat → Prop} (hts : ∀ w ∈ lw_tbl, w.before args s = true) (hgv : gvC.before args s = true) (hA : ∀ a : Nat, a < s.heap.size → ¬ A a) : ∃ c : Nat → Nat, ∀ (a : Nat → Nat) (cA : Nat → ClassId) (D : va_G), fS (a, cA, D, c) A s s.heap := by
  have hs := flat_of_before _ hgv
  obtain ⟨t, ht, hT⟩ := va_Tof (tm := tmL) (ty := .int) (N := 8) (f := fun j => .int (i32 (flane j))) (A := A) (by decide) (hs _ (by decide +kernel)) (va_eqt (hs (Cond.eq (.length tmL) (.int (Int32.ofNat 8))) (by decide +kernel))) (fun j hj => va_eqt (hs _ (fl_L j hj))) hA
  have hZ : va_Z "VoiceWords" "LANE_ORDER" "[I" (.ref t) A s s.heap := va_Zof (hts _ (tbw (i := 489) (by decide +kernel))) (hts _ (tbw (i := 1) (by decide +kernel))) ht hA
  obtain ⟨adK, adV, hV, hE⟩ := vk_Sof (args := args) (s := s) (N := 6) (tm := tmS) (len := fLen) (byt := fByt) (A := A) (by decide) (fun i hi => hs _ (fl_ex i hi)) (fun i hi => hs _ (fl_co i hi)) (fun i hi => hs _ (fl_ar i hi)) (fun i hi => hs _ (fl_le i hi)) (fun i hi j hj => hs _ (fl_el i hi j hj)) (fun i j hi hj hij => (fl_ne i hi j hj hij).elim (fun h => Or.inl (hs _ h)) (fun h => Or.inr (hs _ h))) hA
  have hC : va_Z "java/lang/String" "COMPACT_STRINGS" "Z" (.int 1) A s s.heap := va_Zof (hts _ (tbw (i := 259) (by decide +kernel))) (hts _ (tbw (i := 8) (by decide +kernel))) (va_eqi (hs _ (by decide +kernel))) hA
  have hF : va_Zq "jdk/internal/util/Preconditions" "SIOOBE_FORMATTER" "Ljava/util/function/BiFunction;" A s s.heap := va_Zqof (hts _ (tbw (i := 275) (by decide +kernel))) (hts _ (tbw (i := 10) (by decide +kernel))) (hs _ (by decide +kernel)) hA
  have n1 : va_Nw (.methodLinkNest RX3 29 yX1_init "VoiceWords") s := va_Nw.of rfl (hts _ (tbw (i := 109) (by decide +kernel)))
  have n2 : va_Nw (.methodLinkNest RX0 25 yX2_init "VoiceWords") s := va_Nw.of rfl (hts _ (tbw (i := 29) (by decide +kernel)))
  have n3 : va_Nw (.methodLinkNest RX1 59 yX3_isAllowed "VoiceWords") s := va_Nw.of rfl (hts _ (tbw (i := 307) (by decide +kernel)))
  have n4 : va_Nw (.methodLinkNest RX1 81 yX3_isBetween "VoiceWords") s := va_Nw.of rfl (hts _ (tbw (i := 324) (by decide +kernel)))
  have n5 : va_Nw (.fieldLinkNest RX0 143 "VoiceWords" "LANE_ORDER" "[I" "VoiceWords") s := va_Nw.of rfl (hts _ (tbw (i := 488) (by decide +kernel)))
  refine ⟨fun k => if k = 0 then t else if k < 7 then adK (k - 1) else adV (k - 7), fun a cA D => ?_⟩
  have e0 : (fun k => if k = 0 then t else if k < 7 then adK (k - 1) else adV (k - 7)) 0 = t := rfl
  have e1 : ∀ i, i < 6 → (fun k => if k = 0 then t else if k < 7 then adK (k - 1) else adV (k - 7)) (1 + i) = adK i := fun i hi => by
    show (if 1 + i = 0 then t else if 1 + i < 7 then adK (1 + i - 1) else adV (1 + i - 7)) = adK i
    rw [if_neg (by omega), if_pos (by omega), show 1 + i - 1 = i by omega]
  have e2 : ∀ i, (fun k => if k = 0 then t else if k < 7 then adK (k - 1) else adV (k - 7)) (7 + i) = adV i := fun i => by
    show (if 7 + i = 0 then t else if 7 + i < 7 then adK (7 + i - 1) else adV (7 + i - 7)) = adV i
    rw [if_neg (by omega), if_neg (by omega), show 7 + i - 7 = i by omega]
  generalize (fun k => if k = 0 then t else if k < 7 then adK (k - 1) else adV (k - 7)) = c at e0 e1 e2 ⊢
  refine ⟨?_, ?_, ⟨fun i hi => ?_, fun i j hi hj e => ?_⟩, fun i hi => ?_, hC, hF, n1, n2, n3, n4, n5⟩
  · show va_Z "VoiceWords" "LANE_ORDER" "[I" (.ref (c 0)) A s s.heap
    rw [e0]; exact hZ
  · show va_T .int (c 0) 8 (fun j => .int (i32 (flane j))) A s s.heap
    rw [e0]; exact hT
  · have h := hV.1 i hi
    rw [← e1 i hi, ← e2 i] at h
    exact h
  · have e' : c (1 + i) = c (1 + j) := e
    rw [e1 i hi, e1 j hj] at e'
    exact hV.2 i j hi hj e'
  · show vk_R RX1 (fSt i) (fTx i) (c (1 + i)) s
    rw [e1 i hi]
    exact vk_R.of (A := args) (hts _ (List.mem_append_right _ (fl_sr i hi))) (hE i hi)
theorem fac_X {args : Array Value} {s : State} (hts : ∀ w ∈ lw_tbl, w.before args s = true) : cX s :=
  ⟨va_AO.of (hts _ (tbw (i := 27) (by decide +kernel))), va_AO.of (hts _ (tbw (i := 106) (by decide +kernel))), va_Nw.of rfl (hts _ (tbw (i := 109) (by decide +kernel))), va_Nw.of rfl (hts _ (tbw (i := 29) (by decide +kernel)))⟩
