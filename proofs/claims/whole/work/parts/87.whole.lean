/-! WHOLE: from the entry to the end -/
set_option maxHeartbeats 4000000 in
set_option maxRecDepth 100000 in
theorem law_mid {p : Program} {e : Env} {s : State} {m : MethodId} {below : List Frame} {meth : Method} {c : Code} (l : Launch) {b L : Nat} {xs : Nat → Int32} {g : fG} (hL : L ≤ 3072) (hx : p.tables.exec = Jvm.exec) (hb : c.code = code) (hr : meth.sig.returnType = ret) (hml : c.maxLocals = 4) (hown : s.vm.findClass RL = some m.cls) (hts0 : ∀ w ∈ lw_tbl, w.before #[Value.ref b] s = true) (hXS : va_X b L xs s s.heap) (hbl : b < s.heap.size) (hlocks : meth.locks = false) (hK : va_K g.2.2.1 vwCl (fty g) s) (hSt : ∀ a : Nat → Nat, fS (a, g.2) (fun q => s.heap.size ≤ q) s s.heap) (hCX : cX s)
    {H : Heap} {locs : List Loc} {ls : Array Slot} {u u2 : Nat → Nat} {q q2 kc ks : Nat} (hkc : kc ≤ 600000) (hks : ks ≤ 7302249) (h5 : u 0 = q) (h6 : u2 0 = q2) (hP : va_P g.2.2.1 vwCl (cW 214 u (vE g (finV u) (hE g 5 u) u) ++ finM g u2) H) (hD : va_D (fun q => s.heap.size ≤ q) (cW 214 u (vE g (finV u) (hE g 5 u) u) ++ finM g u2)) (hS : va_S (fun q => s.heap.size ≤ q) s.heap H locs) (hl : lv_has ls 4 [(3, .int (i32 0)), (2, .ref q2), (1, .ref q), (0, .ref b)]) : W p l e room_1 s m #[Value.ref b] below meth c H locs kc ks (lw_Z below #[Value.ref b] s) (F0 m 18 ls []) := by
  obtain ⟨hP1, hinj, hAk⟩ := zStart hP hD
  have hts : ∀ w ∈ wsL_law, w.before #[.ref b] s = true := fun w hw => hts0 w (wsL_law_in w hw)
  have e0 : (zG g u u2).1 0 = q := h5
  have e2 : (zG g u u2).1 214 = q2 := h6
  have hS1 : fS (zG g u u2) (fun q => s.heap.size ≤ q) s s.heap := hSt _
  have hK1 : va_K (zG g u u2).2.2.1 vwCl (fty (zG g u u2)) s := hK
  generalize zG g u u2 = Γ at hP1 hinj hAk e0 e2 hS1 hK1
  have G : fC p s m #[.ref b] meth c cL_law RL wsL_law (fun q => s.heap.size ≤ q) Γ 220 4 ret := ⟨hx, hb, hml, hown, hts, hK1, hinj, hAk, hS1, hr, hlocks⟩
  have stop : ∀ (J : fM) (Q2 : fN) (lv : List (Nat × Value)), fV p l e room_1 s m #[Value.ref b] below meth c (lw_Z below #[Value.ref b] s) (fun q => s.heap.size ≤ q) Γ 220 4 kc ks J Q2 832 lv [] := by
    intro J Q2 lv H locs ls hP hS hl
    refine lv_iconst (v := 1) hx hb dL_law_832 rfl ?_
    refine va_forget hS.2.2 ?_
    refine W.widen (k := 600000) (n := 7302249) hkc hks ?_
    exact lw_ret (d0 := s.drawn) (Drawn.sameBut.refl s.drawn lw_cs) hx hb hr hlocks dL_law_833
  have hgo := lawloop G hXS hbl (fun h => absurd h (by omega)) hL (show kc ≤ 600000 from hkc) (show ks ≤ 7302249 from hks) stop 4000 zI zP 0 zSim (by omega) (by omega) (by omega)
  rw [e0, e2] at hgo
  exact hgo H locs ls hP1 hS (lv_sub hl [3, 2, 1, 0] rfl)
set_option maxHeartbeats 4000000 in
set_option maxRecDepth 100000 in
theorem whole_start {p : Program} {e : Env} {s : State} {m : MethodId} {below : List Frame} {meth : Method} {c : Code} (l : Launch) (hflags : l.flags = flags0) {b L : Nat} {xs : Nat → Int32} (hL : L ≤ 3072) (C0 : lw_At p s m meth c b L xs) : W p l e room_1 s m #[Value.ref b] below meth c s.heap [] 0 0 (lw_Z below #[Value.ref b] s) (entryFrame m ([Value.ref b] : List Value).toArray 4) := by
  obtain ⟨hx, hb, hr, hml, hown0, hts0, hXS, hbl, hlocks, hgv⟩ := C0
  have hts : ∀ w ∈ wsL_law, w.before #[.ref b] s = true := fun w hw => hts0 w (wsL_law_in w hw)
  have hown : s.vm.findClass RL = some m.cls := hown0
  have hA1 : ∀ a : Nat, a < s.heap.size → ¬ s.heap.size ≤ a := fun a h k => by omega
  have hA : ∀ q : Nat, s.heap.size ≤ q → (fun q : Nat => s.heap.size ≤ q) q := fun q h => h
  obtain ⟨cA, D, hK0⟩ := fac_K hts0
  obtain ⟨cs, hS0⟩ := fac_S (A := fun q => s.heap.size ≤ q) hts0 hgv hA1
  have hCX := fac_X hts0
  obtain ⟨g, hK, hSt⟩ : ∃ g : fG, va_K g.2.2.1 vwCl (fty g) s ∧ ∀ a : Nat → Nat, fS (a, g.2) (fun q => s.heap.size ≤ q) s s.heap := ⟨(fun _ => 0, cA, D, cs), hK0 _ _, fun a => hS0 a cA D⟩
  have hl := lv_entry ([.ref b]) (n := 4) (Nat.le_of_ble_eq_true rfl)
  rw [lg_entry_eq]
  generalize (lg_sl ([.ref b]) ++ List.replicate (4 - (lg_sl ([.ref b])).length) Slot.unset).toArray = ls at hl ⊢
  have hl : lv_has ls 4 [(0, .ref b)] := hl
  have hP : va_P g.2.2.1 vwCl [] s.heap := fun k q h => by simp at h
  have hD : va_D (fun q => s.heap.size ≤ q) [] := ⟨fun i j x y h => by simp at h, fun k q h => by simp at h⟩
  have hS : va_S (fun q => s.heap.size ≤ q) s.heap s.heap [] := va_S.rf
  have hc1 : 0 + 1 ≤ room_1.cells := by show 0 + 1 ≤ 600000; omega
  have hs1 : 0 + 5 ≤ room_1.slots := by show 0 + 5 ≤ 7302249; omega
  refine va_new (ci := 3) (fs := [.null, .null, .null, .int (i32 0), .null]) (C := RX3) (T := TX3) (N := 5) hx hb hts0 xin_X3 tyX3 tyX3_ok hown (hts0 (.classLink RL 7 RX3) (tbw (i := 13) (by decide +kernel))) (hts0 (.instantiable RX3 5) (tbw (i := 14) (by decide +kernel))) (hts0 (.initialized RX3) (tbw (i := 1) (by decide +kernel))) hK hP hD hS hA rfl (fun j hj => by have hj9 : j = 0 ∨ j = 1 ∨ j = 2 ∨ j = 3 ∨ j = 4 := (by omega); rcases hj9 with rfl | rfl | rfl | rfl | rfl <;> rfl) hc1 hs1 dL_law_0 (fun q H hP hD hS => ?_)
  have hP : va_P g.2.2.1 vwCl [(q, rawV)] H := hP
  have hD : va_D (fun q => s.heap.size ≤ q) [(q, rawV)] := hD
  refine lv_dup hx hb dL_law_3 rfl ?_
  have hFc := va_free (wc := [(q, rawV)]) hD hS hA [0] rfl
  have hc2 : 0 + 1 + 213 ≤ room_1.cells := by show 0 + 1 + 213 ≤ 600000; omega
  have hs2 : 0 + 5 + 2368 ≤ room_1.slots := by show 0 + 5 + 2368 ≤ 7302249; omega
  refine va_callv (va_runI (As := []) (rest := [.ref q]) ⟨hx, hb, hml, hown, hts⟩ (cVoice l g q H.size) (cwI 0 hts gL_law_X3_init rfl rfl rfl (hts0 (.initialized RX3) (tbw (i := 1) (by decide +kernel))) (hts0 (.methodLink RL 9 yX3_init) (tbw (i := 15) (by decide +kernel))) (hts0 (.instanceMethod yX3_init) (tbw (i := 16) (by decide +kernel))) rfl (by decide +kernel) ⟨Nat.le_of_ble_eq_true rfl, Nat.le_of_ble_eq_true rfl⟩) ⟨cP_blind, fun U hU hW => ⟨rfl, by rw [hU], by rw [hU]; exact hP, va_K.moved hW.alike hK, hD.weaken (fun _ _ _ _ => trivial), hCX.warm hW⟩⟩ rfl rfl hl.1 rfl (lv_room (Nat.le_of_ble_eq_true rfl)) dL_law_4 ⟨hc2, hs2⟩) hS (fun q _ h => hFc q h) hFc (fun u t H1 locs ht hvm h5 hB hz1 hk1 hS => ?_)
  obtain ⟨hP, hD1⟩ := hB
  rw [ht] at hP
  have hP : va_P g.2.2.1 vwCl (cW 214 u (vE g (finV u) (hE g 5 u) u)) H1 := hP
  have hD : va_D (fun q => s.heap.size ≤ q) (cW 214 u (vE g (finV u) (hE g 5 u) u)) := ⟨hD1.1, fun k x hk => hFc _ (hD1.2 k x hk)⟩
  refine lv_astore_n hx hb dL_law_7 rfl hl (by decide) rfl (fun ls hl => ?_)
  have hc3 : 0 + 1 + 213 + 1 ≤ room_1.cells := by show 0 + 1 + 213 + 1 ≤ 600000; omega
  have hs3 : 0 + 5 + 2368 + 13 ≤ room_1.slots := by show 0 + 5 + 2368 + 13 ≤ 7302249; omega
  refine va_new (ci := 4) (fs := [.int (i32 0), .null, .null, .null, .int (i32 0), .null, .int (i32 0), .int (i32 0), .int (i32 0), .int (i32 0), .long (i64 0), .int (i32 0), .null]) (C := RX4) (T := TX4) (N := 13) hx hb hts0 xin_X4 tyX4 tyX4_ok hown (hts0 (.classLink RL 10 RX4) (tbw (i := 539) (by decide +kernel))) (hts0 (.instantiable RX4 13) (tbw (i := 540) (by decide +kernel))) (hts0 (.initialized RX4) (tbw (i := 5) (by decide +kernel))) hK hP hD hS hA rfl (fun j hj => by have hj9 : j = 0 ∨ j = 1 ∨ j = 2 ∨ j = 3 ∨ j = 4 ∨ j = 5 ∨ j = 6 ∨ j = 7 ∨ j = 8 ∨ j = 9 ∨ j = 10 ∨ j = 11 ∨ j = 12 := (by omega); rcases hj9 with rfl | rfl | rfl | rfl | rfl | rfl | rfl | rfl | rfl | rfl | rfl | rfl | rfl <;> rfl) hc3 hs3 dL_law_8 (fun q2 H hP hD hS => ?_)
  have hP : va_P g.2.2.1 vwCl (cW 214 u (vE g (finV u) (hE g 5 u) u) ++ [(q2, rawM)]) H := hP
  have hD : va_D (fun q => s.heap.size ≤ q) (cW 214 u (vE g (finV u) (hE g 5 u) u) ++ [(q2, rawM)]) := hD
  obtain ⟨J, hJ⟩ : ∃ J : Nat → va_E, J = vE g (finV u) (hE g 5 u) u := ⟨_, rfl⟩
  rw [← hJ] at hP hD
  rw [cW_push (ad := (fun i => if i = 214 then q2 else u i)) (J := (fun i => if i = 214 then rawM else J i)) (fun i hi => ⟨if_neg (by omega), if_neg (by omega)⟩) (if_pos rfl) (if_pos rfl)] at hP hD
  refine lv_dup hx hb dL_law_11 rfl ?_
  have ec : [214].filterMap (fun i => (cW (214 + 1) (fun i => if i = 214 then q2 else u i) (fun i => if i = 214 then rawM else J i))[i]?) = [(q2, rawM)] := by rw [cW_cutf]; simp
  have em : [214].map (fun i => (cW (214 + 1) (fun i => if i = 214 then q2 else u i) (fun i => if i = 214 then rawM else J i))[i]?) = [(q2, rawM)].map some := by rw [cW_cut]; simp
  have hPc := hP.sub (ws' := [(q2, rawM)]) [214] ec
  have hDc := hD.sub (ws' := [(q2, rawM)]) [214] (nd_range _ (List.nodup_cons.mpr ⟨List.not_mem_nil, List.nodup_nil⟩)) em
  have hFc := va_free (wc := [(q2, rawM)]) hD hS hA [214] em
  have hc4 : 0 + 1 + 213 + 1 + 5 ≤ room_1.cells := by show 0 + 1 + 213 + 1 + 5 ≤ 600000; omega
  have hs4 : 0 + 5 + 2368 + 13 + 1859 ≤ room_1.slots := by show 0 + 5 + 2368 + 13 + 1859 ≤ 7302249; omega
  refine va_callv (va_runI (As := []) (rest := [.ref q2]) ⟨hx, hb, hml, hown, hts⟩ (cModel l g q2 H.size) (cwI 0 hts gL_law_X4_init rfl rfl rfl (hts0 (.initialized RX4) (tbw (i := 5) (by decide +kernel))) (hts0 (.methodLink RL 12 yX4_init) (tbw (i := 541) (by decide +kernel))) (hts0 (.instanceMethod yX4_init) (tbw (i := 542) (by decide +kernel))) rfl (by decide +kernel) ⟨Nat.le_of_ble_eq_true rfl, Nat.le_of_ble_eq_true rfl⟩) ⟨cP_blind, fun U hU hW => ⟨rfl, by rw [hU], by rw [hU]; exact hPc, va_K.moved hW.alike hK, hDc.weaken (fun _ _ _ _ => trivial), hCX.warm hW⟩⟩ rfl rfl hl.1 rfl (lv_room (Nat.le_of_ble_eq_true rfl)) dL_law_12 ⟨hc4, hs4⟩) hS (fun q _ h => hFc q h) hFc (fun u2 t H1 locs ht hvm h6 hB hz1 hk1 hS => ?_)
  obtain ⟨hP1, hD1⟩ := hB
  rw [ht] at hP1
  have ej : [((fun i => if i = 214 then q2 else u i) 214, (fun i => if i = 214 then rawM else J i) 214)] = [(q2, rawM)] := by simp
  obtain ⟨hP, hD⟩ := cW_join hP hD (by rw [ej]; exact hk1) (by rw [ej]; exact hFc) hP1 (by rw [ej]; exact hD1)
  rw [cW_c (n := 214) (ad := (fun i => if i = 214 then q2 else u i)) (ad' := u) (J := (fun i => if i = 214 then rawM else J i)) (J' := J) (fun i hi => ⟨if_neg (by omega), if_neg (by omega)⟩), hJ] at hP hD
  refine lv_astore_n hx hb dL_law_15 rfl hl (by decide) rfl (fun ls hl => ?_)
  refine lv_iconst (v := i32 0) hx hb dL_law_16 rfl ?_
  refine lv_istore_n hx hb dL_law_17 rfl hl (by decide) rfl (fun ls hl => ?_)
  exact law_mid l hL hx hb hr hml hown hts0 hXS hbl hlocks hK hSt hCX (by omega) (by omega) h5 h6 hP hD hS hl
