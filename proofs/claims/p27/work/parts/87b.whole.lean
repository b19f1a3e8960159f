/-! WHOLE: from the entry to the end -/
set_option maxHeartbeats 4000000 in
set_option maxRecDepth 100000 in
theorem law_mid {p : Program} {e : Env} {s : State} {m : MethodId} {below : List Frame} {meth : Method} {c : Code} (l : Launch) {b L : Nat} {xs : Nat → Int32} {g : fG} (hL : L ≤ 260) (hx : p.tables.exec = Jvm.exec) (hb : c.code = code) (hr : meth.sig.returnType = ret) (hml : c.maxLocals = 14) (hown : s.vm.findClass RL = some m.cls) (hts0 : ∀ w ∈ lw_tbl, w.before #[Value.ref b] s = true) (hXS : va_X b L xs s s.heap) (hbl : b < s.heap.size) (hlocks : meth.locks = false) (hK : va_K g.2.2.1 vwCl (fty g) s) (hSt : ∀ a : Nat → Nat, fS (a, g.2) (fun q => s.heap.size ≤ q) s s.heap)
    {H : Heap} {locs : List Loc} {ls : Array Slot} {u : Nat → Nat} {q kc ks : Nat} (hkc : kc ≤ 600000) (hks : ks ≤ 7302250) (h5 : u 0 = q) (hP : va_P g.2.2.1 vwCl (cW 214 u (vE g (finV u) (hE g 5 u) u)) H) (hD : va_D (fun q => s.heap.size ≤ q) (cW 214 u (vE g (finV u) (hE g 5 u) u))) (hS : va_S (fun q => s.heap.size ≤ q) s.heap H locs) (hl : lv_has ls 14 [(2, .int (i32 0)), (1, .ref q), (0, .ref b)]) : W p l e room_1 s m #[Value.ref b] below meth c H locs kc ks (lw_Z below #[Value.ref b] s) (F0 m 10 ls []) := by
  obtain ⟨hP1, hinj, hAk⟩ := zStart hP hD
  have hts : ∀ w ∈ wsL_law, w.before #[.ref b] s = true := fun w hw => hts0 w (wsL_law_in w hw)
  have e0 : (zG g u).1 0 = q := h5
  have hS1 : fS (zG g u) (fun q => s.heap.size ≤ q) s s.heap := hSt _
  have hK1 : va_K (zG g u).2.2.1 vwCl (fty (zG g u)) s := hK
  generalize zG g u = Γ at hP1 hinj hAk e0 hS1 hK1
  have G : fC p s m #[.ref b] meth c cL_law RL wsL_law (fun q => s.heap.size ≤ q) Γ 214 14 ret := ⟨hx, hb, hml, hown, hts, hK1, hinj, hAk, hS1, hr, hlocks⟩
  have stop : ∀ (J : fM) (Q2 : fN) (lv : List (Nat × Value)), fV p l e room_1 s m #[Value.ref b] below meth c (lw_Z below #[Value.ref b] s) (fun q => s.heap.size ≤ q) Γ 214 14 kc ks J Q2 503 lv [] := by
    intro J Q2 lv H locs ls hP hS hl
    refine lv_iconst (v := 1) hx hb dL_law_503 rfl ?_
    refine lv_goto (tgt := 508) hx hb dL_law_504 (by decide) ?_
    refine va_forget hS.2.2 ?_
    refine W.widen (k := 600000) (n := 7302250) hkc hks ?_
    exact lw_ret (d0 := s.drawn) (Drawn.sameBut.refl s.drawn lw_cs) hx hb hr hlocks dL_law_508
  have hgo := lawL1 G hXS hbl (fun h => absurd h (by omega)) hL (show kc ≤ 600000 from hkc) (show ks ≤ 7302250 from hks) stop 20 zI zP (zI 215) 0 zSt (zI_M (by decide)) (by omega) (by omega) (by omega)
  rw [e0] at hgo
  exact hgo H locs ls hP1 hS (lv_sub hl [2, 1, 0] rfl)
set_option maxHeartbeats 4000000 in
set_option maxRecDepth 100000 in
theorem whole_start {p : Program} {e : Env} {s : State} {m : MethodId} {below : List Frame} {meth : Method} {c : Code} (l : Launch) (hflags : l.flags = flags0) {b L : Nat} {xs : Nat → Int32} (hL : L ≤ 260) (C0 : lw_At p s m meth c b L xs) : W p l e room_1 s m #[Value.ref b] below meth c s.heap [] 0 0 (lw_Z below #[Value.ref b] s) (entryFrame m ([Value.ref b] : List Value).toArray 14) := by
  obtain ⟨hx, hb, hr, hml, hown0, hts0, hXS, hbl, hlocks, hgv⟩ := C0
  have hts : ∀ w ∈ wsL_law, w.before #[.ref b] s = true := fun w hw => hts0 w (wsL_law_in w hw)
  have hown : s.vm.findClass RL = some m.cls := hown0
  have hA1 : ∀ a : Nat, a < s.heap.size → ¬ s.heap.size ≤ a := fun a h k => by omega
  have hA : ∀ q : Nat, s.heap.size ≤ q → (fun q : Nat => s.heap.size ≤ q) q := fun q h => h
  obtain ⟨cA, D, hK0⟩ := fac_K hts0
  obtain ⟨cs, hS0⟩ := fac_S (A := fun q => s.heap.size ≤ q) hts0 hgv hA1
  have hCX := fac_X hts0
  obtain ⟨g, hK, hSt⟩ : ∃ g : fG, va_K g.2.2.1 vwCl (fty g) s ∧ ∀ a : Nat → Nat, fS (a, g.2) (fun q => s.heap.size ≤ q) s s.heap := ⟨(fun _ => 0, cA, D, cs), hK0 _ _, fun a => hS0 a cA D⟩
  have hl := lv_entry ([.ref b]) (n := 14) (Nat.le_of_ble_eq_true rfl)
  rw [lg_entry_eq]
  generalize (lg_sl ([.ref b]) ++ List.replicate (14 - (lg_sl ([.ref b])).length) Slot.unset).toArray = ls at hl ⊢
  have hl : lv_has ls 14 [(0, .ref b)] := hl
  have hP : va_P g.2.2.1 vwCl [] s.heap := fun k q h => by simp at h
  have hD : va_D (fun q => s.heap.size ≤ q) [] := ⟨fun i j x y h => by simp at h, fun k q h => by simp at h⟩
  have hS : va_S (fun q => s.heap.size ≤ q) s.heap s.heap [] := va_S.rf
  have hc1 : 0 + 1 ≤ room_1.cells := by show 0 + 1 ≤ 600000; omega
  have hs1 : 0 + 5 ≤ room_1.slots := by show 0 + 5 ≤ 7302250; omega
  refine va_new (ci := 3) (fs := [.null, .null, .null, .int (i32 0), .null]) (C := RX3) (T := TX3) (N := 5) hx hb hts0 xin_X3 tyX3 tyX3_ok hown (hts0 (.classLink RL 13 RX3) (tbw (i := 12) (by decide +kernel))) (hts0 (.instantiable RX3 5) (tbw (i := 13) (by decide +kernel))) (hts0 (.initialized RX3) (tbw (i := 1) (by decide +kernel))) hK hP hD hS hA rfl (fun j hj => by have hj9 : j = 0 ∨ j = 1 ∨ j = 2 ∨ j = 3 ∨ j = 4 := (by omega); rcases hj9 with rfl | rfl | rfl | rfl | rfl <;> rfl) hc1 hs1 dL_law_0 (fun q H hP hD hS => ?_)
  have hP : va_P g.2.2.1 vwCl [(q, rawV)] H := hP
  have hD : va_D (fun q => s.heap.size ≤ q) [(q, rawV)] := hD
  refine lv_dup hx hb dL_law_3 rfl ?_
  have hFc := va_free (wc := [(q, rawV)]) hD hS hA [0] rfl
  have hc2 : 0 + 1 + 213 ≤ room_1.cells := by show 0 + 1 + 213 ≤ 600000; omega
  have hs2 : 0 + 5 + 2368 ≤ room_1.slots := by show 0 + 5 + 2368 ≤ 7302250; omega
  refine va_callv (va_runI (As := []) (rest := [.ref q]) ⟨hx, hb, hml, hown, hts⟩ (cVoice l g q H.size) (cwI 0 hts gL_law_X3_init rfl rfl rfl (hts0 (.initialized RX3) (tbw (i := 1) (by decide +kernel))) (hts0 (.methodLink RL 75 yX3_init) (tbw (i := 14) (by decide +kernel))) (hts0 (.instanceMethod yX3_init) (tbw (i := 15) (by decide +kernel))) rfl (by decide +kernel) ⟨Nat.le_of_ble_eq_true rfl, Nat.le_of_ble_eq_true rfl⟩) ⟨cP_blind, fun U hU hW => ⟨rfl, by rw [hU], by rw [hU]; exact hP, va_K.moved hW.alike hK, hD.weaken (fun _ _ _ _ => trivial), hCX.warm hW⟩⟩ rfl rfl hl.1 rfl (lv_room (Nat.le_of_ble_eq_true rfl)) dL_law_4 ⟨hc2, hs2⟩) hS (fun q _ h => hFc q h) hFc (fun u t H1 locs ht hvm h5 hB hz1 hk1 hS => ?_)
  obtain ⟨hP, hD1⟩ := hB
  rw [ht] at hP
  have hP : va_P g.2.2.1 vwCl (cW 214 u (vE g (finV u) (hE g 5 u) u)) H1 := hP
  have hD : va_D (fun q => s.heap.size ≤ q) (cW 214 u (vE g (finV u) (hE g 5 u) u)) := ⟨hD1.1, fun k x hk => hFc _ (hD1.2 k x hk)⟩
  refine lv_astore_n hx hb dL_law_7 rfl hl (by decide) rfl (fun ls hl => ?_)
  refine lv_iconst (v := i32 0) hx hb dL_law_8 rfl ?_
  refine lv_istore_n hx hb dL_law_9 rfl hl (by decide) rfl (fun ls hl => ?_)
  exact law_mid l hL hx hb hr hml hown hts0 hXS hbl hlocks hK hSt (by omega) (by omega) h5 hP hD hS hl
