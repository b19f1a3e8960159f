/-! LAW: its walk (rows laid by wip/p27/gen/lcon4.py) -/
set_option maxHeartbeats 4000000 in
set_option maxRecDepth 100000 in
theorem lawC {p : Program} {l : Launch} {e : Env} {s : State} {m : MethodId} {b : Nat} {below : List Frame} {meth : Method} {c : Code} {Q : State → Prop} {A : Nat → Prop} {Γ : fG} {kc ks : Nat} {ret : Option FieldType} {L : Nat} {xs : Nat → Int32} (G : fC p s m #[Value.ref b] meth c cL_law RL wsL_law A Γ 214 14 ret) (hXS : va_X b L xs s s.heap) (hbl : b < s.heap.size) (hbA : ¬ A b) (hL : L ≤ 260) (hkc : kc ≤ room_1.cells) (hks : ks ≤ room_1.slots) {I : fM} {P : fN} {σ : Int → Int} (S : St0 I P σ) (t y : Int) (next : ∀ (J : fM) (Q2 : fN) (ρ : Int → Int), St0 J Q2 ρ → fV p l e room_1 s m #[Value.ref b] below meth c Q A Γ 214 14 kc ks J Q2 378 [(0, .ref b), (1, .ref (Γ.1 0)), (2, .int (i32 t))] []) : fV p l e room_1 s m #[Value.ref b] below meth c Q A Γ 214 14 kc ks I P 267 [(0, .ref b), (1, .ref (Γ.1 0)), (2, .int (i32 t)), (3, .int (i32 y))] [] := by
  have hN : 214 ≤ 214 := Nat.le_refl _
  obtain ⟨-, hm, -, -⟩ := St_c0 S
  have hs0 := hm.1.1
  refine fV_aload_n (pc' := 268) G 1 dL_law_267 rfl rfl rfl ?_
  refine fV_iconst (pc' := 269) G dL_law_268 rfl ?_
  have hc1 : qXCount I P 0 = (σ) 0 := (St_c0 S).1
  refine fV_callVf (v := some (.int (i32 ((σ) 0)))) (I' := I) (P' := P) (st' := [.int (i32 ((σ) 0))]) (n := 1) (k := 0) (K := 3) (As := [.int (i32 0)]) (rest := []) (pc' := 272) G (by have h9 := mX3_count l Γ hN I P (xAll_ok (Sim_all S.1)) 0 (by omega); rw [hc1] at h9; exact h9) kcL_law_12 (by omega) rfl rfl rfl rfl (Nat.le_of_ble_eq_true rfl) hkc hks dL_law_269 rfl rfl ?_
  refine fV_if_le (tgt := 378) (pc' := 275) G dL_law_272 (by decide) rfl (by omega) (fun c2 => ?_) (fun c2 => ?_)
  · refine fV_lv (lv' := [(0, .ref b), (1, .ref (Γ.1 0)), (2, .int (i32 t))]) [0, 1, 2] rfl ?_
    exact next _ _ _ (St_0 S)
  · refine fV_iload_n (pc' := 276) G 3 dL_law_275 rfl rfl rfl ?_
    refine fV_aload_n (pc' := 277) G 1 dL_law_276 rfl rfl rfl ?_
    refine fV_iconst (pc' := 278) G dL_law_277 rfl ?_
    have hc3 : qXCount I P 0 = (σ) 0 := (St_c0 S).1
    refine fV_callVf (v := some (.int (i32 ((σ) 0)))) (I' := I) (P' := P) (st' := [.int (i32 ((σ) 0)), .int (i32 y)]) (n := 1) (k := 0) (K := 3) (As := [.int (i32 0)]) (rest := [.int (i32 y)]) (pc' := 281) G (by have h9 := mX3_count l Γ hN I P (xAll_ok (Sim_all S.1)) 0 (by omega); rw [hc3] at h9; exact h9) kcL_law_12 (by omega) rfl rfl rfl rfl (Nat.le_of_ble_eq_true rfl) hkc hks dL_law_278 rfl rfl ?_
    obtain ⟨k9, hk9⟩ : ∃ x, x = lo y ((σ) 0) := ⟨_, rfl⟩
    have bk9 := lo_b y (n := (σ) 0) (by omega)
    rw [← hk9] at bk9
    refine fV_callSf (v := some (.int (i32 k9))) (I' := I) (P' := P) (st' := [.int (i32 k9)]) (n := 2) (As := [.int (i32 y), .int (i32 ((σ) 0))]) (rest := []) (pc' := 284) G (by have h9 := mL_low l Γ hN I P y ((σ) 0) (by omega); rw [← hk9] at h9; exact h9) kcL_law_28 rfl rfl (Nat.le_of_ble_eq_true rfl) hkc hks dL_law_281 rfl rfl ?_
    refine fV_istore (lv' := [(9, .int (i32 k9)), (0, .ref b), (1, .ref (Γ.1 0)), (2, .int (i32 t)), (3, .int (i32 y))]) (pc' := 286) G dL_law_284 (by decide) rfl rfl ?_
    refine fV_iload_n (pc' := 287) G 4 dL_law_286 rfl rfl rfl ?_
    refine fV_iconst (pc' := 288) G dL_law_287 rfl ?_
    refine fV_ishrr (t := sr y 3) (pc' := 289) G rfl dL_law_288 rfl ?_
    refine fV_bipush (n := 41) (pc' := 291) G dL_law_289 rfl rfl ?_
    refine fV_aload_n (pc' := 292) G 2 dL_law_291 rfl rfl rfl ?_
    refine fV_iload (pc' := 294) G 0 dL_law_292 rfl rfl ?_
    refine fV_bipush (n := 7) (pc' := 296) G dL_law_294 rfl rfl ?_
    obtain ⟨le, hle⟩ : ∃ x, x = (σ) (13 + 19 * k9 + 6) := ⟨_, rfl⟩
    have hlb := (hm.2 k9 (by omega) (by omega)).1
    (try dsimp only at hlb)
    rw [← hle] at hlb
    refine fV_callVf (v := some (.int (i32 le))) (I' := I) (P' := P) (st' := [.int (i32 le), .int (i32 41), .int (i32 (sr y 3))]) (n := 2) (k := 0) (K := 3) (As := [.int (i32 k9), .int (i32 7)]) (rest := [.int (i32 41), .int (i32 (sr y 3))]) (pc' := 299) G (by have h9 := mX3_word l Γ hN I P (xAll_ok (Sim_all S.1)) k9 7 (by omega) (by omega); rw [g_word S, vWord7 (by omega) (by omega), ← hle] at h9; exact h9) kcL_law_18 (by omega) rfl rfl rfl rfl (Nat.le_of_ble_eq_true rfl) hkc hks dL_law_296 rfl rfl ?_
    refine fV_isub (pc' := 300) G dL_law_299 rfl ?_
    obtain ⟨col, hcol⟩ : ∃ x, x = lo (sr y 3) (41 - le) := ⟨_, rfl⟩
    have bcol := lo_b (sr y 3) (n := 41 - le) (by omega)
    rw [← hcol] at bcol
    refine fV_callSf (v := some (.int (i32 col))) (I' := I) (P' := P) (st' := [.int (i32 col)]) (n := 2) (As := [.int (i32 (sr y 3)), .int (i32 (41 - le))]) (rest := []) (pc' := 303) G (by have h9 := mL_low l Γ hN I P (sr y 3) (41 - le) (by omega); rw [← hcol] at h9; exact h9) kcL_law_28 rfl rfl (Nat.le_of_ble_eq_true rfl) hkc hks dL_law_300 rfl rfl ?_
    refine fV_istore (lv' := [(10, .int (i32 col)), (9, .int (i32 k9)), (0, .ref b), (1, .ref (Γ.1 0)), (2, .int (i32 t)), (3, .int (i32 y))]) (pc' := 305) G dL_law_303 (by decide) rfl rfl ?_
    refine fV_aload_n (pc' := 306) G 3 dL_law_305 rfl rfl rfl ?_
    refine fV_iload (pc' := 308) G 1 dL_law_306 rfl rfl ?_
    refine fV_iconst (pc' := 309) G dL_law_308 rfl ?_
    refine fV_iload (pc' := 311) G 0 dL_law_309 rfl rfl ?_
    refine fV_callV (n := 3) (k := 0) (K := 3) (As := [.int (i32 k9), .int (i32 3), .int (i32 col)]) (rest := []) (pc' := 314) G (mX3_earliest l Γ hN I P (Sim_all S.1) k9 3 col (by omega) (by omega) (by omega)) kcL_law_95 (by omega) rfl rfl rfl rfl (Nat.le_of_ble_eq_true rfl) hkc hks dL_law_311 rfl (fun v4 I5 P6 h7 => ?_)
    obtain ⟨hv, S1⟩ := g_ear S h7
    obtain ⟨fr, hfr⟩ : ∃ x, x = vEar (σ) k9 3 col := ⟨_, rfl⟩
    have hfb := vEar_b (w := k9) (la := 3) (co := col) hm
    rw [← hfr] at hv hfb
    refine fV_st (st' := [.int (i32 fr)]) (by rw [hv]; rfl) ?_
    refine fV_istore (lv' := [(11, .int (i32 fr)), (10, .int (i32 col)), (9, .int (i32 k9)), (0, .ref b), (1, .ref (Γ.1 0)), (2, .int (i32 t)), (3, .int (i32 y))]) (pc' := 316) G dL_law_314 (by decide) rfl rfl ?_
    refine fV_aload_n (pc' := 317) G 4 dL_law_316 rfl rfl rfl ?_
    refine fV_callSf (v := some (.long (i64 (dig (σ))))) (I' := I5) (P' := P6) (st' := [.long (i64 (dig (σ)))]) (n := 1) (As := [.ref (Γ.1 0)]) (rest := []) (pc' := 320) G (by have h9 := mL_digest l Γ hN I5 P6 (Sim_all S1.1); rw [digX_eq S1] at h9; exact h9) kcL_law_80 rfl rfl (Nat.le_of_ble_eq_true rfl) hkc hks dL_law_317 rfl rfl ?_
    refine fV_lstore (lv' := [(12, .long (i64 (dig (σ)))), (11, .int (i32 fr)), (10, .int (i32 col)), (9, .int (i32 k9)), (0, .ref b), (1, .ref (Γ.1 0)), (2, .int (i32 t)), (3, .int (i32 y))]) (pc' := 322) G dL_law_320 (by decide) rfl rfl ?_
    refine fV_iload (pc' := 324) G 1 dL_law_322 rfl rfl ?_
    refine fV_if_lt (tgt := 366) (pc' := 327) G dL_law_324 (by decide) rfl (by omega) (fun c8 => ?_) (fun c8 => ?_)
    · refine fV_aload_n (pc' := 367) G 5 dL_law_366 rfl rfl rfl ?_
      refine fV_callSf (v := some (.long (i64 (dig (σ))))) (I' := I5) (P' := P6) (st' := [.long (i64 (dig (σ)))]) (n := 1) (As := [.ref (Γ.1 0)]) (rest := []) (pc' := 370) G (by have h9 := mL_digest l Γ hN I5 P6 (Sim_all S1.1); rw [digX_eq S1] at h9; exact h9) kcL_law_80 rfl rfl (Nat.le_of_ble_eq_true rfl) hkc hks dL_law_367 rfl rfl ?_
      refine fV_lload (pc' := 372) G 0 dL_law_370 rfl rfl ?_
      refine fV_lcmp_same (pc' := 373) G dL_law_372 rfl ?_
      refine fV_if_eq (tgt := 378) (pc' := 376) G dL_law_373 (by decide) rfl (by omega) (fun c9 => ?_) (fun c9 => ?_)
      · refine fV_lv (lv' := [(0, .ref b), (1, .ref (Γ.1 0)), (2, .int (i32 t))]) [4, 5, 6] rfl ?_
        exact next _ _ _ (St_0 S1)
      · exfalso
        omega
    · refine fV_aload_n (pc' := 328) G 5 dL_law_327 rfl rfl rfl ?_
      refine fV_iload (pc' := 330) G 3 dL_law_328 rfl rfl ?_
      refine fV_iconst (pc' := 331) G dL_law_330 rfl ?_
      refine fV_iload (pc' := 333) G 1 dL_law_331 rfl rfl ?_
      refine fV_callV (n := 3) (k := 0) (K := 3) (As := [.int (i32 k9), .int (i32 0), .int (i32 fr)]) (rest := []) (pc' := 336) G (mX3_setWord l Γ hN I5 P6 (Sim_all S1.1) k9 0 fr (by omega) (by omega) (by omega)) kcL_law_40 (by omega) rfl rfl rfl rfl (Nat.le_of_ble_eq_true rfl) hkc hks dL_law_333 rfl (fun v9 I10 P11 h12 => ?_)
      obtain ⟨hv, hA⟩ := h12
      obtain ⟨hq, K333, hK, hO⟩ := g_set S1 (by decide) hA
      rw [hq] at hv
      have hep := ear_put (w := k9) (co := col) hm (by omega) (by omega) (by omega) (by rw [← hle]; omega) (by rw [← hfr]; omega)
      rw [← hfr] at hep
      have hvb := vSet_b (w := k9) (what := 0) (v := fr) hm
      have S2 := o_yes hO (by omega)
      refine fV_gh hK ?_
      refine fV_st (st' := [.int (i32 (vSet (σ) k9 0 fr))]) (by rw [hv]; rfl) ?_
      refine fV_if_lt (tgt := 376) (pc' := 339) G dL_law_336 (by decide) rfl (by omega) (fun c13 => ?_) (fun c13 => ?_)
      · exfalso
        omega
      · refine fV_aload_n (pc' := 340) G 5 dL_law_339 rfl rfl rfl ?_
        refine fV_iload (pc' := 342) G 3 dL_law_340 rfl rfl ?_
        refine fV_iconst (pc' := 343) G dL_law_342 rfl ?_
        refine fV_iload (pc' := 345) G 2 dL_law_343 rfl rfl ?_
        refine fV_callV (n := 3) (k := 0) (K := 3) (As := [.int (i32 k9), .int (i32 3), .int (i32 col)]) (rest := []) (pc' := 348) G (mX3_put l Γ hN K333 P11 (Sim_all S2.1) k9 3 col (by omega) (by omega) (by omega)) kcL_law_60 (by omega) rfl rfl rfl rfl (Nat.le_of_ble_eq_true rfl) hkc hks dL_law_345 rfl (fun v14 I15 P16 h17 => ?_)
        obtain ⟨hv, K345, hK, hO⟩ := g_put S2 (by decide) h17
        have hvb2 := vPut_b (w := k9) (la := 3) (co := col) (St_c0 S2).2.1
        have S3 := o_yes hO (by omega)
        refine fV_gh hK ?_
        refine fV_st (st' := [.int (i32 (vPut (tSet (σ) k9 0 fr) k9 3 col))]) (by rw [hv]; rfl) ?_
        refine fV_iconst (pc' := 349) G dL_law_348 rfl ?_
        refine fV_icmp_lt (tgt := 376) (pc' := 352) G dL_law_349 (by decide) rfl (by omega) (by decide) (fun c18 => ?_) (fun c18 => ?_)
        · exfalso
          omega
        · refine fV_aload_n (pc' := 353) G 5 dL_law_352 rfl rfl rfl ?_
          refine fV_callV (n := 0) (k := 0) (K := 3) (As := []) (rest := []) (pc' := 356) G (mX3_undo l Γ hN K345 P16 (Sim_all S3.1)) kcL_law_92 (by omega) rfl rfl rfl rfl (Nat.le_of_ble_eq_true rfl) hkc hks dL_law_353 rfl (fun v19 I20 P21 h22 => ?_)
          obtain ⟨K353, hK, S4, n353, hv, hn353, hn353_⟩ := un_St S3 h22
          have S4 : St K353 P21 (tSet σ k9 0 fr) 1 _ := S4
          refine fV_gh hK ?_
          refine fV_st (st' := [.int (i32 n353)]) (by rw [hv]; rfl) ?_
          refine fV_if_lt (tgt := 376) (pc' := 359) G dL_law_356 (by decide) rfl (by omega) (fun c23 => ?_) (fun c23 => ?_)
          · exfalso
            omega
          · refine fV_aload_n (pc' := 360) G 5 dL_law_359 rfl rfl rfl ?_
            refine fV_callV (n := 0) (k := 0) (K := 3) (As := []) (rest := []) (pc' := 363) G (mX3_undo l Γ hN K353 P21 (Sim_all S4.1)) kcL_law_92 (by omega) rfl rfl rfl rfl (Nat.le_of_ble_eq_true rfl) hkc hks dL_law_360 rfl (fun v24 I25 P26 h27 => ?_)
            obtain ⟨K360, hK, S5, n360, hv, hn360, hn360_⟩ := un_St S4 h27
            have S5 : St K360 P26 (σ) 0 _ := S5
            refine fV_gh hK ?_
            refine fV_st (st' := [.int (i32 n360)]) (by rw [hv]; rfl) ?_
            refine fV_if_lt (tgt := 376) (pc' := 366) G dL_law_363 (by decide) rfl (by omega) (fun c28 => ?_) (fun c28 => ?_)
            · exfalso
              omega
            · refine fV_aload_n (pc' := 367) G 5 dL_law_366 rfl rfl rfl ?_
              refine fV_callSf (v := some (.long (i64 (dig (σ))))) (I' := K360) (P' := P26) (st' := [.long (i64 (dig (σ)))]) (n := 1) (As := [.ref (Γ.1 0)]) (rest := []) (pc' := 370) G (by have h9 := mL_digest l Γ hN K360 P26 (Sim_all S5.1); rw [digX_eq S5] at h9; exact h9) kcL_law_80 rfl rfl (Nat.le_of_ble_eq_true rfl) hkc hks dL_law_367 rfl rfl ?_
              refine fV_lload (pc' := 372) G 0 dL_law_370 rfl rfl ?_
              refine fV_lcmp_same (pc' := 373) G dL_law_372 rfl ?_
              refine fV_if_eq (tgt := 378) (pc' := 376) G dL_law_373 (by decide) rfl (by omega) (fun c29 => ?_) (fun c29 => ?_)
              · refine fV_lv (lv' := [(0, .ref b), (1, .ref (Γ.1 0)), (2, .int (i32 t))]) [4, 5, 6] rfl ?_
                exact next _ _ _ (St_0 S5)
              · exfalso
                omega
set_option maxHeartbeats 4000000 in
set_option maxRecDepth 100000 in
theorem lawB {p : Program} {l : Launch} {e : Env} {s : State} {m : MethodId} {b : Nat} {below : List Frame} {meth : Method} {c : Code} {Q : State → Prop} {A : Nat → Prop} {Γ : fG} {kc ks : Nat} {ret : Option FieldType} {L : Nat} {xs : Nat → Int32} (G : fC p s m #[Value.ref b] meth c cL_law RL wsL_law A Γ 214 14 ret) (hXS : va_X b L xs s s.heap) (hbl : b < s.heap.size) (hbA : ¬ A b) (hL : L ≤ 260) (hkc : kc ≤ room_1.cells) (hks : ks ≤ room_1.slots) {I : fM} {P : fN} {σ : Int → Int} (S : St0 I P σ) (t : Int) (ht : 0 ≤ t ∧ t < 14) (next : ∀ (J : fM) (Q2 : fN) (ρ : Int → Int), St0 J Q2 ρ → fV p l e room_1 s m #[Value.ref b] below meth c Q A Γ 214 14 kc ks J Q2 378 [(0, .ref b), (1, .ref (Γ.1 0)), (2, .int (i32 t))] []) : fV p l e room_1 s m #[Value.ref b] below meth c Q A Γ 214 14 kc ks I P 88 [(0, .ref b), (1, .ref (Γ.1 0)), (2, .int (i32 t))] [] := by
  have hN : 214 ≤ 214 := Nat.le_refl _
  obtain ⟨-, hm, -, -⟩ := St_c0 S
  have hs0 := hm.1.1
  have hpb := pairs_b hm
  refine fV_aload_n (pc' := 89) G 0 dL_law_88 rfl rfl rfl ?_
  refine fV_iconst (pc' := 90) G dL_law_89 rfl ?_
  refine fV_iload_n (pc' := 91) G 2 dL_law_90 rfl rfl rfl ?_
  refine fV_iadd (pc' := 92) G dL_law_91 rfl ?_
  refine fV_cell (rest := []) (pc' := 95) G hXS hbl hbA hL (by omega) (Nat.le_of_ble_eq_true rfl) hkc hks dL_law_92 rfl (fun y => ?_)
  refine fV_istore_n (lv' := [(3, .int (i32 y)), (0, .ref b), (1, .ref (Γ.1 0)), (2, .int (i32 t))]) (pc' := 96) G dL_law_95 rfl (by decide) rfl rfl ?_
  refine fV_aload_n (pc' := 97) G 2 dL_law_96 rfl rfl rfl ?_
  refine fV_callSf (v := some (.long (i64 (dig (σ))))) (I' := I) (P' := P) (st' := [.long (i64 (dig (σ)))]) (n := 1) (As := [.ref (Γ.1 0)]) (rest := []) (pc' := 100) G (by have h9 := mL_digest l Γ hN I P (Sim_all S.1); rw [digX_eq S] at h9; exact h9) kcL_law_80 rfl rfl (Nat.le_of_ble_eq_true rfl) hkc hks dL_law_97 rfl rfl ?_
  refine fV_lstore (lv' := [(4, .long (i64 (dig (σ)))), (3, .int (i32 y)), (0, .ref b), (1, .ref (Γ.1 0)), (2, .int (i32 t))]) (pc' := 102) G dL_law_100 (by decide) rfl rfl ?_
  refine fV_aload_n (pc' := 103) G 3 dL_law_102 rfl rfl rfl ?_
  refine fV_iconst (pc' := 104) G dL_law_103 rfl ?_
  have hc1 : qXCount I P 4 = pairs (σ) := (show qXCount I P 4 = qXPairs I P 1 from rfl).trans (g_pairs S)
  refine fV_callVf (v := some (.int (i32 (pairs (σ))))) (I' := I) (P' := P) (st' := [.int (i32 (pairs (σ)))]) (n := 1) (k := 0) (K := 3) (As := [.int (i32 4)]) (rest := []) (pc' := 107) G (by have h9 := mX3_count l Γ hN I P (xAll_ok (Sim_all S.1)) 4 (by omega); rw [hc1] at h9; exact h9) kcL_law_12 (by omega) rfl rfl rfl rfl (Nat.le_of_ble_eq_true rfl) hkc hks dL_law_104 rfl rfl ?_
  refine fV_istore (lv' := [(6, .int (i32 (pairs (σ)))), (4, .long (i64 (dig (σ)))), (3, .int (i32 y)), (0, .ref b), (1, .ref (Γ.1 0)), (2, .int (i32 t))]) (pc' := 109) G dL_law_107 (by decide) rfl rfl ?_
  refine fV_aload_n (pc' := 110) G 4 dL_law_109 rfl rfl rfl ?_
  refine fV_iload_n (pc' := 111) G 2 dL_law_110 rfl rfl rfl ?_
  refine fV_callS (n := 2) (As := [.ref (Γ.1 0), .int (i32 y)]) (rest := []) (pc' := 114) G (mL_act l Γ (Nat.le_refl _) I P S (by decide) y) kcL_law_84 rfl rfl (Nat.le_of_ble_eq_true rfl) hkc hks dL_law_111 rfl (fun v2 I3 P4 h5 => ?_)
  obtain ⟨hv, hO, hord⟩ := h5
  obtain ⟨gt, hgt⟩ : ∃ x, x = aV (σ) y := ⟨_, rfl⟩
  have hgb := aV_b (y := y) hm
  rw [← hgt] at hgb
  rw [← hgt] at hv
  refine fV_st (st' := [.int (i32 gt)]) (by rw [hv]; rfl) ?_
  have hO := hO
  refine fV_istore (lv' := [(7, .int (i32 gt)), (6, .int (i32 (pairs (σ)))), (4, .long (i64 (dig (σ)))), (3, .int (i32 y)), (0, .ref b), (1, .ref (Γ.1 0)), (2, .int (i32 t))]) (pc' := 116) G dL_law_114 (by decide) rfl rfl ?_
  refine fV_iload (pc' := 118) G 0 dL_law_116 rfl rfl ?_
  refine fV_bipush (n := -11) (pc' := 120) G dL_law_118 rfl rfl ?_
  refine fV_icmp_gt (tgt := 133) (pc' := 123) G dL_law_120 (by decide) rfl (by omega) (by decide) (fun c6 => ?_) (fun c6 => ?_)
  · have S1 := o_yes hO (by omega)
    refine fV_aload_n (pc' := 134) G 5 dL_law_133 rfl rfl rfl ?_
    refine fV_callSf (v := some (.int (i32 (fB true)))) (I' := I3) (P' := P4) (st' := [.int (i32 (fB true))]) (n := 1) (As := [.ref (Γ.1 0)]) (rest := []) (pc' := 137) G (mL_isRight l Γ hN I3 P4 S1) kcL_law_88 rfl rfl (Nat.le_of_ble_eq_true rfl) hkc hks dL_law_134 rfl rfl ?_
    refine fV_ifne_b (tgt := 142) (pc' := 140) G dL_law_137 (by decide) rfl (fun c7 => ?_) (fun c7 => ?_)
    · refine fV_iload_n (pc' := 143) G 3 dL_law_142 rfl rfl rfl ?_
      refine fV_bipush (n := 15) (pc' := 145) G dL_law_143 rfl rfl ?_
      refine fV_iandr (t := kd y) (pc' := 146) G rfl dL_law_145 rfl ?_
      refine fV_istore (lv' := [(8, .int (i32 (kd y))), (7, .int (i32 gt)), (6, .int (i32 (pairs (σ)))), (4, .long (i64 (dig (σ)))), (3, .int (i32 y)), (0, .ref b), (1, .ref (Γ.1 0)), (2, .int (i32 t))]) (pc' := 148) G dL_law_146 (by decide) rfl rfl ?_
      refine fV_iload (pc' := 150) G 1 dL_law_148 rfl rfl ?_
      refine fV_bipush (n := -11) (pc' := 152) G dL_law_150 rfl rfl ?_
      refine fV_icmp_le (tgt := 208) (pc' := 155) G dL_law_152 (by decide) rfl (by omega) (by decide) (fun c8 => ?_) (fun c8 => ?_)
      · exfalso
        omega
      · have t208 : fV p l e room_1 s m #[Value.ref b] below meth c Q A Γ 214 14 kc ks I3 P4 208 [(0, .ref b), (1, .ref (Γ.1 0)), (2, .int (i32 t)), (3, .int (i32 y)), (4, .long (i64 (dig (σ)))), (6, .int (i32 (pairs (σ)))), (7, .int (i32 gt)), (8, .int (i32 (kd y)))] [] := by
          refine fV_iload (pc' := 210) G 6 dL_law_208 rfl rfl ?_
          refine fV_bipush (n := -11) (pc' := 212) G dL_law_210 rfl rfl ?_
          refine fV_icmp_le (tgt := 267) (pc' := 215) G dL_law_212 (by decide) rfl (by omega) (by decide) (fun c209 => ?_) (fun c209 => ?_)
          · exfalso
            omega
          · have h3b := i32_r (i32 t &&& i32 3)
            refine fV_iload_n (pc' := 216) G 2 dL_law_215 rfl rfl rfl ?_
            refine fV_iconst (pc' := 217) G dL_law_216 rfl ?_
            refine fV_iandr (t := (i32 t &&& i32 3).toInt) (pc' := 218) G rfl dL_law_217 rfl ?_
            refine fV_iconst (pc' := 219) G dL_law_218 rfl ?_
            refine fV_icmp_ne (tgt := 267) (pc' := 222) G dL_law_219 (by decide) rfl (by omega) (by decide) (fun c210 => ?_) (fun c210 => ?_)
            · refine fV_lv (lv' := [(0, .ref b), (1, .ref (Γ.1 0)), (2, .int (i32 t)), (3, .int (i32 y))]) [0, 1, 2, 3] rfl ?_
              exact lawC G hXS hbl hbA hL hkc hks (St_0 S1) t y next
            · refine fV_aload_n (pc' := 223) G 1 dL_law_222 rfl rfl rfl ?_
              refine fV_callSf (v := some (.long (i64 (dig (aT σ y))))) (I' := I3) (P' := P4) (st' := [.long (i64 (dig (aT σ y)))]) (n := 1) (As := [.ref (Γ.1 0)]) (rest := []) (pc' := 226) G (by have h9 := mL_digest l Γ hN I3 P4 (Sim_all S1.1); rw [digX_eq S1] at h9; exact h9) kcL_law_80 rfl rfl (Nat.le_of_ble_eq_true rfl) hkc hks dL_law_223 rfl rfl ?_
              refine fV_lstore (lv' := [(9, .long (i64 (dig (aT σ y)))), (0, .ref b), (1, .ref (Γ.1 0)), (2, .int (i32 t)), (3, .int (i32 y)), (4, .long (i64 (dig (σ)))), (6, .int (i32 (pairs (σ)))), (7, .int (i32 gt)), (8, .int (i32 (kd y)))]) (pc' := 228) G dL_law_226 (by decide) rfl rfl ?_
              refine fV_aload_n (pc' := 229) G 2 dL_law_228 rfl rfl rfl ?_
              refine fV_callV (n := 0) (k := 0) (K := 3) (As := []) (rest := []) (pc' := 232) G (mX3_undo l Γ hN I3 P4 (Sim_all S1.1)) kcL_law_92 (by omega) rfl rfl rfl rfl (Nat.le_of_ble_eq_true rfl) hkc hks dL_law_229 rfl (fun v211 I212 P213 h214 => ?_)
              obtain ⟨K229, hK, S2, n229, hv, hn229, hn229_⟩ := un_St S1 h214
              have S2 : St K229 P213 (σ) 0 _ := S2
              refine fV_gh hK ?_
              refine fV_st (st' := [.int (i32 n229)]) (by rw [hv]; rfl) ?_
              refine fV_if_lt (tgt := 265) (pc' := 235) G dL_law_232 (by decide) rfl (by omega) (fun c215 => ?_) (fun c215 => ?_)
              · exfalso
                omega
              · refine fV_aload_n (pc' := 236) G 2 dL_law_235 rfl rfl rfl ?_
                refine fV_callSf (v := some (.long (i64 (dig (σ))))) (I' := K229) (P' := P213) (st' := [.long (i64 (dig (σ)))]) (n := 1) (As := [.ref (Γ.1 0)]) (rest := []) (pc' := 239) G (by have h9 := mL_digest l Γ hN K229 P213 (Sim_all S2.1); rw [digX_eq S2] at h9; exact h9) kcL_law_80 rfl rfl (Nat.le_of_ble_eq_true rfl) hkc hks dL_law_236 rfl rfl ?_
                refine fV_lload (pc' := 241) G 5 dL_law_239 rfl rfl ?_
                refine fV_lcmp_same (pc' := 242) G dL_law_241 rfl ?_
                refine fV_if_ne (tgt := 265) (pc' := 245) G dL_law_242 (by decide) rfl (by omega) (fun c216 => ?_) (fun c216 => ?_)
                · exfalso
                  omega
                · refine fV_aload_n (pc' := 246) G 2 dL_law_245 rfl rfl rfl ?_
                  refine fV_iload_n (pc' := 247) G 4 dL_law_246 rfl rfl rfl ?_
                  refine fV_callS (n := 2) (As := [.ref (Γ.1 0), .int (i32 y)]) (rest := []) (pc' := 250) G (mL_act l Γ (Nat.le_refl _) K229 P213 S2 (by decide) y) kcL_law_84 rfl rfl (Nat.le_of_ble_eq_true rfl) hkc hks dL_law_247 rfl (fun v217 I218 P219 h220 => ?_)
                  obtain ⟨hv, hO, hord⟩ := h220
                  rw [← hgt] at hv
                  refine fV_st (st' := [.int (i32 gt)]) (by rw [hv]; rfl) ?_
                  have hO := hO
                  have S3 := o_yes hO (by omega)
                  refine fV_iload (pc' := 252) G 7 dL_law_250 rfl rfl ?_
                  refine fV_icmp_ne (tgt := 265) (pc' := 255) G dL_law_252 (by decide) rfl (by omega) (by omega) (fun c221 => ?_) (fun c221 => ?_)
                  · exfalso
                    omega
                  · refine fV_aload_n (pc' := 256) G 2 dL_law_255 rfl rfl rfl ?_
                    refine fV_callSf (v := some (.long (i64 (dig (aT σ y))))) (I' := I218) (P' := P219) (st' := [.long (i64 (dig (aT σ y)))]) (n := 1) (As := [.ref (Γ.1 0)]) (rest := []) (pc' := 259) G (by have h9 := mL_digest l Γ hN I218 P219 (Sim_all S3.1); rw [digX_eq S3] at h9; exact h9) kcL_law_80 rfl rfl (Nat.le_of_ble_eq_true rfl) hkc hks dL_law_256 rfl rfl ?_
                    refine fV_lload (pc' := 261) G 0 dL_law_259 rfl rfl ?_
                    refine fV_lcmp_same (pc' := 262) G dL_law_261 rfl ?_
                    refine fV_if_eq (tgt := 267) (pc' := 265) G dL_law_262 (by decide) rfl (by omega) (fun c222 => ?_) (fun c222 => ?_)
                    · refine fV_lv (lv' := [(0, .ref b), (1, .ref (Γ.1 0)), (2, .int (i32 t)), (3, .int (i32 y))]) [1, 2, 3, 4] rfl ?_
                      exact lawC G hXS hbl hbA hL hkc hks (St_0 S3) t y next
                    · exfalso
                      omega
        have hkb := kd_b y
        have hpb2 := pairs_b (St_c0 S1).2.1
        refine fV_iload (pc' := 157) G 0 dL_law_155 rfl rfl ?_
        refine fV_bipush (n := 9) (pc' := 159) G dL_law_157 rfl rfl ?_
        refine fV_icmp_ne (tgt := 170) (pc' := 162) G dL_law_159 (by decide) rfl (by omega) (by decide) (fun c9 => ?_) (fun c9 => ?_)
        · refine fV_iload (pc' := 172) G 0 dL_law_170 rfl rfl ?_
          refine fV_bipush (n := 9) (pc' := 174) G dL_law_172 rfl rfl ?_
          refine fV_icmp_gt (tgt := 196) (pc' := 177) G dL_law_174 (by decide) rfl (by omega) (by decide) (fun c10 => ?_) (fun c10 => ?_)
          · have hle9 := ale (y := y) hm (by omega) (by omega)
            refine fV_aload_n (pc' := 197) G 6 dL_law_196 rfl rfl rfl ?_
            refine fV_iconst (pc' := 198) G dL_law_197 rfl ?_
            have hc11 : qXCount I3 P4 4 = pairs (aT σ y) := (show qXCount I3 P4 4 = qXPairs I3 P4 1 from rfl).trans (g_pairs S1)
            refine fV_callVf (v := some (.int (i32 (pairs (aT σ y))))) (I' := I3) (P' := P4) (st' := [.int (i32 (pairs (aT σ y)))]) (n := 1) (k := 0) (K := 3) (As := [.int (i32 4)]) (rest := []) (pc' := 201) G (by have h9 := mX3_count l Γ hN I3 P4 (xAll_ok (Sim_all S1.1)) 4 (by omega); rw [hc11] at h9; exact h9) kcL_law_12 (by omega) rfl rfl rfl rfl (Nat.le_of_ble_eq_true rfl) hkc hks dL_law_198 rfl rfl ?_
            refine fV_iload (pc' := 203) G 2 dL_law_201 rfl rfl ?_
            refine fV_icmp_le (tgt := 208) (pc' := 206) G dL_law_203 (by decide) rfl (by omega) (by omega) (fun c12 => ?_) (fun c12 => ?_)
            · refine fV_lv (lv' := [(0, .ref b), (1, .ref (Γ.1 0)), (2, .int (i32 t)), (3, .int (i32 y)), (4, .long (i64 (dig (σ)))), (6, .int (i32 (pairs (σ)))), (7, .int (i32 gt)), (8, .int (i32 (kd y)))]) [5, 6, 7, 4, 3, 2, 1, 0] rfl ?_
              exact t208
            · exfalso
              omega
          · refine fV_iload (pc' := 179) G 0 dL_law_177 rfl rfl ?_
            refine fV_bipush (n := 8) (pc' := 181) G dL_law_179 rfl rfl ?_
            refine fV_icmp_eq (tgt := 196) (pc' := 184) G dL_law_181 (by decide) rfl (by omega) (by decide) (fun c11 => ?_) (fun c11 => ?_)
            · have hle9 := ale (y := y) hm (by omega) (by omega)
              refine fV_aload_n (pc' := 197) G 6 dL_law_196 rfl rfl rfl ?_
              refine fV_iconst (pc' := 198) G dL_law_197 rfl ?_
              have hc12 : qXCount I3 P4 4 = pairs (aT σ y) := (show qXCount I3 P4 4 = qXPairs I3 P4 1 from rfl).trans (g_pairs S1)
              refine fV_callVf (v := some (.int (i32 (pairs (aT σ y))))) (I' := I3) (P' := P4) (st' := [.int (i32 (pairs (aT σ y)))]) (n := 1) (k := 0) (K := 3) (As := [.int (i32 4)]) (rest := []) (pc' := 201) G (by have h9 := mX3_count l Γ hN I3 P4 (xAll_ok (Sim_all S1.1)) 4 (by omega); rw [hc12] at h9; exact h9) kcL_law_12 (by omega) rfl rfl rfl rfl (Nat.le_of_ble_eq_true rfl) hkc hks dL_law_198 rfl rfl ?_
              refine fV_iload (pc' := 203) G 2 dL_law_201 rfl rfl ?_
              refine fV_icmp_le (tgt := 208) (pc' := 206) G dL_law_203 (by decide) rfl (by omega) (by omega) (fun c13 => ?_) (fun c13 => ?_)
              · refine fV_lv (lv' := [(0, .ref b), (1, .ref (Γ.1 0)), (2, .int (i32 t)), (3, .int (i32 y)), (4, .long (i64 (dig (σ)))), (6, .int (i32 (pairs (σ)))), (7, .int (i32 gt)), (8, .int (i32 (kd y)))]) [5, 6, 7, 4, 3, 2, 1, 0] rfl ?_
                exact t208
              · exfalso
                omega
            · refine fV_iload (pc' := 186) G 0 dL_law_184 rfl rfl ?_
              refine fV_iconst (pc' := 187) G dL_law_186 rfl ?_
              refine fV_icmp_eq (tgt := 196) (pc' := 190) G dL_law_187 (by decide) rfl (by omega) (by decide) (fun c12 => ?_) (fun c12 => ?_)
              · have hle9 := ale (y := y) hm (by omega) (by omega)
                refine fV_aload_n (pc' := 197) G 6 dL_law_196 rfl rfl rfl ?_
                refine fV_iconst (pc' := 198) G dL_law_197 rfl ?_
                have hc13 : qXCount I3 P4 4 = pairs (aT σ y) := (show qXCount I3 P4 4 = qXPairs I3 P4 1 from rfl).trans (g_pairs S1)
                refine fV_callVf (v := some (.int (i32 (pairs (aT σ y))))) (I' := I3) (P' := P4) (st' := [.int (i32 (pairs (aT σ y)))]) (n := 1) (k := 0) (K := 3) (As := [.int (i32 4)]) (rest := []) (pc' := 201) G (by have h9 := mX3_count l Γ hN I3 P4 (xAll_ok (Sim_all S1.1)) 4 (by omega); rw [hc13] at h9; exact h9) kcL_law_12 (by omega) rfl rfl rfl rfl (Nat.le_of_ble_eq_true rfl) hkc hks dL_law_198 rfl rfl ?_
                refine fV_iload (pc' := 203) G 2 dL_law_201 rfl rfl ?_
                refine fV_icmp_le (tgt := 208) (pc' := 206) G dL_law_203 (by decide) rfl (by omega) (by omega) (fun c14 => ?_) (fun c14 => ?_)
                · refine fV_lv (lv' := [(0, .ref b), (1, .ref (Γ.1 0)), (2, .int (i32 t)), (3, .int (i32 y)), (4, .long (i64 (dig (σ)))), (6, .int (i32 (pairs (σ)))), (7, .int (i32 gt)), (8, .int (i32 (kd y)))]) [5, 6, 7, 4, 3, 2, 1, 0] rfl ?_
                  exact t208
                · exfalso
                  omega
              · refine fV_iload (pc' := 192) G 0 dL_law_190 rfl rfl ?_
                refine fV_iconst (pc' := 193) G dL_law_192 rfl ?_
                refine fV_icmp_ne (tgt := 208) (pc' := 196) G dL_law_193 (by decide) rfl (by omega) (by decide) (fun c13 => ?_) (fun c13 => ?_)
                · refine fV_lv (lv' := [(0, .ref b), (1, .ref (Γ.1 0)), (2, .int (i32 t)), (3, .int (i32 y)), (4, .long (i64 (dig (σ)))), (6, .int (i32 (pairs (σ)))), (7, .int (i32 gt)), (8, .int (i32 (kd y)))]) [5, 6, 7, 4, 3, 2, 1, 0] rfl ?_
                  exact t208
                · have hle9 := ale (y := y) hm (by omega) (by omega)
                  refine fV_aload_n (pc' := 197) G 6 dL_law_196 rfl rfl rfl ?_
                  refine fV_iconst (pc' := 198) G dL_law_197 rfl ?_
                  have hc14 : qXCount I3 P4 4 = pairs (aT σ y) := (show qXCount I3 P4 4 = qXPairs I3 P4 1 from rfl).trans (g_pairs S1)
                  refine fV_callVf (v := some (.int (i32 (pairs (aT σ y))))) (I' := I3) (P' := P4) (st' := [.int (i32 (pairs (aT σ y)))]) (n := 1) (k := 0) (K := 3) (As := [.int (i32 4)]) (rest := []) (pc' := 201) G (by have h9 := mX3_count l Γ hN I3 P4 (xAll_ok (Sim_all S1.1)) 4 (by omega); rw [hc14] at h9; exact h9) kcL_law_12 (by omega) rfl rfl rfl rfl (Nat.le_of_ble_eq_true rfl) hkc hks dL_law_198 rfl rfl ?_
                  refine fV_iload (pc' := 203) G 2 dL_law_201 rfl rfl ?_
                  refine fV_icmp_le (tgt := 208) (pc' := 206) G dL_law_203 (by decide) rfl (by omega) (by omega) (fun c15 => ?_) (fun c15 => ?_)
                  · refine fV_lv (lv' := [(0, .ref b), (1, .ref (Γ.1 0)), (2, .int (i32 t)), (3, .int (i32 y)), (4, .long (i64 (dig (σ)))), (6, .int (i32 (pairs (σ)))), (7, .int (i32 gt)), (8, .int (i32 (kd y)))]) [5, 6, 7, 4, 3, 2, 1, 0] rfl ?_
                    exact t208
                  · exfalso
                    omega
        · have h9z := a9 hm (by omega) (hord (by omega))
          refine fV_aload_n (pc' := 163) G 6 dL_law_162 rfl rfl rfl ?_
          refine fV_iconst (pc' := 164) G dL_law_163 rfl ?_
          have hc10 : qXCount I3 P4 4 = pairs (aT σ y) := (show qXCount I3 P4 4 = qXPairs I3 P4 1 from rfl).trans (g_pairs S1)
          refine fV_callVf (v := some (.int (i32 (pairs (aT σ y))))) (I' := I3) (P' := P4) (st' := [.int (i32 (pairs (aT σ y)))]) (n := 1) (k := 0) (K := 3) (As := [.int (i32 4)]) (rest := []) (pc' := 167) G (by have h9 := mX3_count l Γ hN I3 P4 (xAll_ok (Sim_all S1.1)) 4 (by omega); rw [hc10] at h9; exact h9) kcL_law_12 (by omega) rfl rfl rfl rfl (Nat.le_of_ble_eq_true rfl) hkc hks dL_law_164 rfl rfl ?_
          refine fV_if_ne (tgt := 206) (pc' := 170) G dL_law_167 (by decide) rfl (by omega) (fun c11 => ?_) (fun c11 => ?_)
          · exfalso
            omega
          · refine fV_iload (pc' := 172) G 0 dL_law_170 rfl rfl ?_
            refine fV_bipush (n := 9) (pc' := 174) G dL_law_172 rfl rfl ?_
            refine fV_icmp_gt (tgt := 196) (pc' := 177) G dL_law_174 (by decide) rfl (by omega) (by decide) (fun c12 => ?_) (fun c12 => ?_)
            · have hle9 := ale (y := y) hm (by omega) (by omega)
              refine fV_aload_n (pc' := 197) G 6 dL_law_196 rfl rfl rfl ?_
              refine fV_iconst (pc' := 198) G dL_law_197 rfl ?_
              have hc13 : qXCount I3 P4 4 = pairs (aT σ y) := (show qXCount I3 P4 4 = qXPairs I3 P4 1 from rfl).trans (g_pairs S1)
              refine fV_callVf (v := some (.int (i32 (pairs (aT σ y))))) (I' := I3) (P' := P4) (st' := [.int (i32 (pairs (aT σ y)))]) (n := 1) (k := 0) (K := 3) (As := [.int (i32 4)]) (rest := []) (pc' := 201) G (by have h9 := mX3_count l Γ hN I3 P4 (xAll_ok (Sim_all S1.1)) 4 (by omega); rw [hc13] at h9; exact h9) kcL_law_12 (by omega) rfl rfl rfl rfl (Nat.le_of_ble_eq_true rfl) hkc hks dL_law_198 rfl rfl ?_
              refine fV_iload (pc' := 203) G 2 dL_law_201 rfl rfl ?_
              refine fV_icmp_le (tgt := 208) (pc' := 206) G dL_law_203 (by decide) rfl (by omega) (by omega) (fun c14 => ?_) (fun c14 => ?_)
              · refine fV_lv (lv' := [(0, .ref b), (1, .ref (Γ.1 0)), (2, .int (i32 t)), (3, .int (i32 y)), (4, .long (i64 (dig (σ)))), (6, .int (i32 (pairs (σ)))), (7, .int (i32 gt)), (8, .int (i32 (kd y)))]) [5, 6, 7, 4, 3, 2, 1, 0] rfl ?_
                exact t208
              · exfalso
                omega
            · refine fV_iload (pc' := 179) G 0 dL_law_177 rfl rfl ?_
              refine fV_bipush (n := 8) (pc' := 181) G dL_law_179 rfl rfl ?_
              refine fV_icmp_eq (tgt := 196) (pc' := 184) G dL_law_181 (by decide) rfl (by omega) (by decide) (fun c13 => ?_) (fun c13 => ?_)
              · have hle9 := ale (y := y) hm (by omega) (by omega)
                refine fV_aload_n (pc' := 197) G 6 dL_law_196 rfl rfl rfl ?_
                refine fV_iconst (pc' := 198) G dL_law_197 rfl ?_
                have hc14 : qXCount I3 P4 4 = pairs (aT σ y) := (show qXCount I3 P4 4 = qXPairs I3 P4 1 from rfl).trans (g_pairs S1)
                refine fV_callVf (v := some (.int (i32 (pairs (aT σ y))))) (I' := I3) (P' := P4) (st' := [.int (i32 (pairs (aT σ y)))]) (n := 1) (k := 0) (K := 3) (As := [.int (i32 4)]) (rest := []) (pc' := 201) G (by have h9 := mX3_count l Γ hN I3 P4 (xAll_ok (Sim_all S1.1)) 4 (by omega); rw [hc14] at h9; exact h9) kcL_law_12 (by omega) rfl rfl rfl rfl (Nat.le_of_ble_eq_true rfl) hkc hks dL_law_198 rfl rfl ?_
                refine fV_iload (pc' := 203) G 2 dL_law_201 rfl rfl ?_
                refine fV_icmp_le (tgt := 208) (pc' := 206) G dL_law_203 (by decide) rfl (by omega) (by omega) (fun c15 => ?_) (fun c15 => ?_)
                · refine fV_lv (lv' := [(0, .ref b), (1, .ref (Γ.1 0)), (2, .int (i32 t)), (3, .int (i32 y)), (4, .long (i64 (dig (σ)))), (6, .int (i32 (pairs (σ)))), (7, .int (i32 gt)), (8, .int (i32 (kd y)))]) [5, 6, 7, 4, 3, 2, 1, 0] rfl ?_
                  exact t208
                · exfalso
                  omega
              · refine fV_iload (pc' := 186) G 0 dL_law_184 rfl rfl ?_
                refine fV_iconst (pc' := 187) G dL_law_186 rfl ?_
                refine fV_icmp_eq (tgt := 196) (pc' := 190) G dL_law_187 (by decide) rfl (by omega) (by decide) (fun c14 => ?_) (fun c14 => ?_)
                · have hle9 := ale (y := y) hm (by omega) (by omega)
                  refine fV_aload_n (pc' := 197) G 6 dL_law_196 rfl rfl rfl ?_
                  refine fV_iconst (pc' := 198) G dL_law_197 rfl ?_
                  have hc15 : qXCount I3 P4 4 = pairs (aT σ y) := (show qXCount I3 P4 4 = qXPairs I3 P4 1 from rfl).trans (g_pairs S1)
                  refine fV_callVf (v := some (.int (i32 (pairs (aT σ y))))) (I' := I3) (P' := P4) (st' := [.int (i32 (pairs (aT σ y)))]) (n := 1) (k := 0) (K := 3) (As := [.int (i32 4)]) (rest := []) (pc' := 201) G (by have h9 := mX3_count l Γ hN I3 P4 (xAll_ok (Sim_all S1.1)) 4 (by omega); rw [hc15] at h9; exact h9) kcL_law_12 (by omega) rfl rfl rfl rfl (Nat.le_of_ble_eq_true rfl) hkc hks dL_law_198 rfl rfl ?_
                  refine fV_iload (pc' := 203) G 2 dL_law_201 rfl rfl ?_
                  refine fV_icmp_le (tgt := 208) (pc' := 206) G dL_law_203 (by decide) rfl (by omega) (by omega) (fun c16 => ?_) (fun c16 => ?_)
                  · refine fV_lv (lv' := [(0, .ref b), (1, .ref (Γ.1 0)), (2, .int (i32 t)), (3, .int (i32 y)), (4, .long (i64 (dig (σ)))), (6, .int (i32 (pairs (σ)))), (7, .int (i32 gt)), (8, .int (i32 (kd y)))]) [5, 6, 7, 4, 3, 2, 1, 0] rfl ?_
                    exact t208
                  · exfalso
                    omega
                · refine fV_iload (pc' := 192) G 0 dL_law_190 rfl rfl ?_
                  refine fV_iconst (pc' := 193) G dL_law_192 rfl ?_
                  refine fV_icmp_ne (tgt := 208) (pc' := 196) G dL_law_193 (by decide) rfl (by omega) (by decide) (fun c15 => ?_) (fun c15 => ?_)
                  · refine fV_lv (lv' := [(0, .ref b), (1, .ref (Γ.1 0)), (2, .int (i32 t)), (3, .int (i32 y)), (4, .long (i64 (dig (σ)))), (6, .int (i32 (pairs (σ)))), (7, .int (i32 gt)), (8, .int (i32 (kd y)))]) [5, 6, 7, 4, 3, 2, 1, 0] rfl ?_
                    exact t208
                  · have hle9 := ale (y := y) hm (by omega) (by omega)
                    refine fV_aload_n (pc' := 197) G 6 dL_law_196 rfl rfl rfl ?_
                    refine fV_iconst (pc' := 198) G dL_law_197 rfl ?_
                    have hc16 : qXCount I3 P4 4 = pairs (aT σ y) := (show qXCount I3 P4 4 = qXPairs I3 P4 1 from rfl).trans (g_pairs S1)
                    refine fV_callVf (v := some (.int (i32 (pairs (aT σ y))))) (I' := I3) (P' := P4) (st' := [.int (i32 (pairs (aT σ y)))]) (n := 1) (k := 0) (K := 3) (As := [.int (i32 4)]) (rest := []) (pc' := 201) G (by have h9 := mX3_count l Γ hN I3 P4 (xAll_ok (Sim_all S1.1)) 4 (by omega); rw [hc16] at h9; exact h9) kcL_law_12 (by omega) rfl rfl rfl rfl (Nat.le_of_ble_eq_true rfl) hkc hks dL_law_198 rfl rfl ?_
                    refine fV_iload (pc' := 203) G 2 dL_law_201 rfl rfl ?_
                    refine fV_icmp_le (tgt := 208) (pc' := 206) G dL_law_203 (by decide) rfl (by omega) (by omega) (fun c17 => ?_) (fun c17 => ?_)
                    · refine fV_lv (lv' := [(0, .ref b), (1, .ref (Γ.1 0)), (2, .int (i32 t)), (3, .int (i32 y)), (4, .long (i64 (dig (σ)))), (6, .int (i32 (pairs (σ)))), (7, .int (i32 gt)), (8, .int (i32 (kd y)))]) [5, 6, 7, 4, 3, 2, 1, 0] rfl ?_
                      exact t208
                    · exfalso
                      omega
    · exact absurd c7 (by decide)
  · have S1 := o_no hO (by omega)
    refine fV_aload_n (pc' := 124) G 5 dL_law_123 rfl rfl rfl ?_
    refine fV_callSf (v := some (.long (i64 (dig (σ))))) (I' := I3) (P' := P4) (st' := [.long (i64 (dig (σ)))]) (n := 1) (As := [.ref (Γ.1 0)]) (rest := []) (pc' := 127) G (by have h9 := mL_digest l Γ hN I3 P4 (Sim_all S1.1); rw [digX_eq S1] at h9; exact h9) kcL_law_80 rfl rfl (Nat.le_of_ble_eq_true rfl) hkc hks dL_law_124 rfl rfl ?_
    refine fV_lload (pc' := 129) G 2 dL_law_127 rfl rfl ?_
    refine fV_lcmp_same (pc' := 130) G dL_law_129 rfl ?_
    refine fV_if_ne (tgt := 140) (pc' := 133) G dL_law_130 (by decide) rfl (by omega) (fun c7 => ?_) (fun c7 => ?_)
    · exfalso
      omega
    · refine fV_aload_n (pc' := 134) G 5 dL_law_133 rfl rfl rfl ?_
      refine fV_callSf (v := some (.int (i32 (fB true)))) (I' := I3) (P' := P4) (st' := [.int (i32 (fB true))]) (n := 1) (As := [.ref (Γ.1 0)]) (rest := []) (pc' := 137) G (mL_isRight l Γ hN I3 P4 S1) kcL_law_88 rfl rfl (Nat.le_of_ble_eq_true rfl) hkc hks dL_law_134 rfl rfl ?_
      refine fV_ifne_b (tgt := 142) (pc' := 140) G dL_law_137 (by decide) rfl (fun c8 => ?_) (fun c8 => ?_)
      · refine fV_iload_n (pc' := 143) G 3 dL_law_142 rfl rfl rfl ?_
        refine fV_bipush (n := 15) (pc' := 145) G dL_law_143 rfl rfl ?_
        refine fV_iandr (t := kd y) (pc' := 146) G rfl dL_law_145 rfl ?_
        refine fV_istore (lv' := [(8, .int (i32 (kd y))), (7, .int (i32 gt)), (6, .int (i32 (pairs (σ)))), (4, .long (i64 (dig (σ)))), (3, .int (i32 y)), (0, .ref b), (1, .ref (Γ.1 0)), (2, .int (i32 t))]) (pc' := 148) G dL_law_146 (by decide) rfl rfl ?_
        refine fV_iload (pc' := 150) G 1 dL_law_148 rfl rfl ?_
        refine fV_bipush (n := -11) (pc' := 152) G dL_law_150 rfl rfl ?_
        refine fV_icmp_le (tgt := 208) (pc' := 155) G dL_law_152 (by decide) rfl (by omega) (by decide) (fun c9 => ?_) (fun c9 => ?_)
        · refine fV_iload (pc' := 210) G 1 dL_law_208 rfl rfl ?_
          refine fV_bipush (n := -11) (pc' := 212) G dL_law_210 rfl rfl ?_
          refine fV_icmp_le (tgt := 267) (pc' := 215) G dL_law_212 (by decide) rfl (by omega) (by decide) (fun c10 => ?_) (fun c10 => ?_)
          · refine fV_lv (lv' := [(0, .ref b), (1, .ref (Γ.1 0)), (2, .int (i32 t)), (3, .int (i32 y))]) [5, 6, 7, 4] rfl ?_
            exact lawC G hXS hbl hbA hL hkc hks (St_0 S1) t y next
          · exfalso
            omega
        · exfalso
          omega
      · exact absurd c8 (by decide)
set_option maxHeartbeats 4000000 in
set_option maxRecDepth 100000 in
theorem lawD {p : Program} {l : Launch} {e : Env} {s : State} {m : MethodId} {b : Nat} {below : List Frame} {meth : Method} {c : Code} {Q : State → Prop} {A : Nat → Prop} {Γ : fG} {kc ks : Nat} {ret : Option FieldType} {L : Nat} {xs : Nat → Int32} (G : fC p s m #[Value.ref b] meth c cL_law RL wsL_law A Γ 214 14 ret) (hXS : va_X b L xs s s.heap) (hbl : b < s.heap.size) (hbA : ¬ A b) (hL : L ≤ 260) (hkc : kc ≤ room_1.cells) (hks : ks ≤ room_1.slots) {I : fM} {P : fN} {σ : Int → Int} (S : St0 I P σ) (t : Int) (stop : ∀ (J : fM) (Q2 : fN) (lv : List (Nat × Value)), fV p l e room_1 s m #[Value.ref b] below meth c Q A Γ 214 14 kc ks J Q2 503 lv []) : fV p l e room_1 s m #[Value.ref b] below meth c Q A Γ 214 14 kc ks I P 384 [(0, .ref b), (1, .ref (Γ.1 0)), (2, .int (i32 t))] [] := by
  have hN : 214 ≤ 214 := Nat.le_refl _
  obtain ⟨-, hm, -, -⟩ := St_c0 S
  have hs0 := hm.1.1
  refine fV_aload_n (pc' := 385) G 1 dL_law_384 rfl rfl rfl ?_
  refine fV_callSf (v := some (.long (i64 (dig (σ))))) (I' := I) (P' := P) (st' := [.long (i64 (dig (σ)))]) (n := 1) (As := [.ref (Γ.1 0)]) (rest := []) (pc' := 388) G (by have h9 := mL_digest l Γ hN I P (Sim_all S.1); rw [digX_eq S] at h9; exact h9) kcL_law_80 rfl rfl (Nat.le_of_ble_eq_true rfl) hkc hks dL_law_385 rfl rfl ?_
  refine fV_lstore_n (lv' := [(2, .long (i64 (dig (σ)))), (0, .ref b), (1, .ref (Γ.1 0))]) (pc' := 389) G dL_law_388 rfl (by decide) rfl rfl ?_
  refine fV_aload_n (pc' := 390) G 2 dL_law_389 rfl rfl rfl ?_
  refine fV_bipush (n := 13) (pc' := 392) G dL_law_390 rfl rfl ?_
  refine fV_iconst (pc' := 393) G dL_law_392 rfl ?_
  refine fV_iconst (pc' := 394) G dL_law_393 rfl ?_
  refine fV_iconst (pc' := 395) G dL_law_394 rfl ?_
  refine fV_iconst (pc' := 396) G dL_law_395 rfl ?_
  refine fV_callV (n := 5) (k := 0) (K := 3) (As := [.int (i32 13), .int (i32 0), .int (i32 1), .int (i32 0), .int (i32 0)]) (rest := []) (pc' := 399) G (mX3_addWord l Γ hN I P (Sim_all S.1) 13 0 1 0 0 (by omega) (by omega) (by omega) (by omega) (by omega)) kcL_law_33 (by omega) rfl rfl rfl rfl (Nat.le_of_ble_eq_true rfl) hkc hks dL_law_396 rfl (fun v1 I2 P3 h4 => ?_)
  obtain ⟨hv, hA⟩ := h4
  obtain ⟨hq, K396, hK, hO⟩ := g_add S (by decide) hA
  rw [hq] at hv
  have hva : vAdd (σ) 13 0 1 0 0 = -11 := by unfold vAdd; rw [if_neg (fun z => absurd z.1.2 (by decide))]
  rw [hva] at hv
  have S1 := o_no hO (by omega)
  refine fV_gh hK ?_
  refine fV_st (st' := [.int (i32 (-11))]) (by rw [hv]; rfl) ?_
  refine fV_bipush (n := -11) (pc' := 401) G dL_law_399 rfl rfl ?_
  refine fV_icmp_ne (tgt := 464) (pc' := 404) G dL_law_401 (by decide) rfl (by decide) (by decide) (fun c5 => ?_) (fun c5 => ?_)
  · exfalso
    omega
  · refine fV_aload_n (pc' := 405) G 2 dL_law_404 rfl rfl rfl ?_
    refine fV_iconst (pc' := 406) G dL_law_405 rfl ?_
    refine fV_callV (n := 1) (k := 0) (K := 3) (As := [.int (i32 0)]) (rest := []) (pc' := 409) G (mX3_addShot l Γ hN K396 P3 (Sim_all S1.1) 0 (by omega)) kcL_law_44 (by omega) rfl rfl rfl rfl (Nat.le_of_ble_eq_true rfl) hkc hks dL_law_406 rfl (fun v6 I7 P8 h9 => ?_)
    obtain ⟨hv, hA⟩ := h9
    obtain ⟨hq, K406, hK, hO⟩ := g_ash S1 (by decide) hA
    rw [hq] at hv
    have hva : vAsh (σ) 0 = -11 := by unfold vAsh qMAddShot; rw [if_neg (by decide)]
    rw [hva] at hv
    have S2 := o_no hO (by omega)
    refine fV_gh hK ?_
    refine fV_st (st' := [.int (i32 (-11))]) (by rw [hv]; rfl) ?_
    refine fV_bipush (n := -11) (pc' := 411) G dL_law_409 rfl rfl ?_
    refine fV_icmp_ne (tgt := 464) (pc' := 414) G dL_law_411 (by decide) rfl (by decide) (by decide) (fun c10 => ?_) (fun c10 => ?_)
    · exfalso
      omega
    · refine fV_aload_n (pc' := 415) G 2 dL_law_414 rfl rfl rfl ?_
      refine fV_sipush (n := 401) (pc' := 418) G dL_law_415 rfl rfl ?_
      refine fV_callV (n := 1) (k := 0) (K := 3) (As := [.int (i32 401)]) (rest := []) (pc' := 421) G (mX3_setSpeed l Γ hN K406 P8 (Sim_all S2.1) 401 (by omega)) kcL_law_50 (by omega) rfl rfl rfl rfl (Nat.le_of_ble_eq_true rfl) hkc hks dL_law_418 rfl (fun v11 I12 P13 h14 => ?_)
      obtain ⟨hv, hA⟩ := h14
      obtain ⟨hq, K418, hK, hO⟩ := g_spd S2 (by decide) hA
      rw [hq] at hv
      have hva : vSpd (σ) 401 = -11 := by unfold vSpd; rw [if_neg (by decide)]
      rw [hva] at hv
      have S3 := o_no hO (by omega)
      refine fV_gh hK ?_
      refine fV_st (st' := [.int (i32 (-11))]) (by rw [hv]; rfl) ?_
      refine fV_bipush (n := -11) (pc' := 423) G dL_law_421 rfl rfl ?_
      refine fV_icmp_ne (tgt := 464) (pc' := 426) G dL_law_423 (by decide) rfl (by decide) (by decide) (fun c15 => ?_) (fun c15 => ?_)
      · exfalso
        omega
      · refine fV_aload_n (pc' := 427) G 2 dL_law_426 rfl rfl rfl ?_
        refine fV_iconst (pc' := 428) G dL_law_427 rfl ?_
        refine fV_bipush (n := 8) (pc' := 430) G dL_law_428 rfl rfl ?_
        refine fV_iconst (pc' := 431) G dL_law_430 rfl ?_
        refine fV_callV (n := 3) (k := 0) (K := 3) (As := [.int (i32 0), .int (i32 8), .int (i32 0)]) (rest := []) (pc' := 434) G (mX3_put l Γ hN K418 P13 (Sim_all S3.1) 0 8 0 (by omega) (by omega) (by omega)) kcL_law_60 (by omega) rfl rfl rfl rfl (Nat.le_of_ble_eq_true rfl) hkc hks dL_law_431 rfl (fun v16 I17 P18 h19 => ?_)
        obtain ⟨hv, K431, hK, hO⟩ := g_put S3 (by decide) h19
        have hva : vPut (σ) 0 8 0 = -11 := by unfold vPut; rw [if_neg (fun z => absurd z.2.1.2 (by decide))]
        rw [hva] at hv
        have S4 := o_no hO (by omega)
        refine fV_gh hK ?_
        refine fV_st (st' := [.int (i32 (-11))]) (by rw [hv]; rfl) ?_
        refine fV_bipush (n := -11) (pc' := 436) G dL_law_434 rfl rfl ?_
        refine fV_icmp_ne (tgt := 464) (pc' := 439) G dL_law_436 (by decide) rfl (by decide) (by decide) (fun c20 => ?_) (fun c20 => ?_)
        · exfalso
          omega
        · refine fV_aload_n (pc' := 440) G 2 dL_law_439 rfl rfl rfl ?_
          refine fV_aload_n (pc' := 441) G 2 dL_law_440 rfl rfl rfl ?_
          refine fV_iconst (pc' := 442) G dL_law_441 rfl ?_
          have hc21 : qXCount K431 P18 0 = (σ) 0 := (St_c0 S4).1
          refine fV_callVf (v := some (.int (i32 ((σ) 0)))) (I' := K431) (P' := P18) (st' := [.int (i32 ((σ) 0)), .ref (Γ.1 0)]) (n := 1) (k := 0) (K := 3) (As := [.int (i32 0)]) (rest := [.ref (Γ.1 0)]) (pc' := 445) G (by have h9 := mX3_count l Γ hN K431 P18 (xAll_ok (Sim_all S4.1)) 0 (by omega); rw [hc21] at h9; exact h9) kcL_law_12 (by omega) rfl rfl rfl rfl (Nat.le_of_ble_eq_true rfl) hkc hks dL_law_442 rfl rfl ?_
          refine fV_iconst (pc' := 446) G dL_law_445 rfl ?_
          refine fV_iconst (pc' := 447) G dL_law_446 rfl ?_
          refine fV_callV (n := 3) (k := 0) (K := 3) (As := [.int (i32 ((σ) 0)), .int (i32 0), .int (i32 0)]) (rest := []) (pc' := 450) G (mX3_put l Γ hN K431 P18 (Sim_all S4.1) ((σ) 0) 0 0 (by omega) (by omega) (by omega)) kcL_law_60 (by omega) rfl rfl rfl rfl (Nat.le_of_ble_eq_true rfl) hkc hks dL_law_447 rfl (fun v22 I23 P24 h25 => ?_)
          obtain ⟨hv, K447, hK, hO⟩ := g_put S4 (by decide) h25
          have hva : vPut (σ) ((σ) 0) 0 0 = -11 := by unfold vPut; rw [if_neg (fun z => by have h7 : σ 0 < σ 0 := z.1.2; omega)]
          rw [hva] at hv
          have S5 := o_no hO (by omega)
          refine fV_gh hK ?_
          refine fV_st (st' := [.int (i32 (-11))]) (by rw [hv]; rfl) ?_
          refine fV_bipush (n := -11) (pc' := 452) G dL_law_450 rfl rfl ?_
          refine fV_icmp_ne (tgt := 464) (pc' := 455) G dL_law_452 (by decide) rfl (by decide) (by decide) (fun c26 => ?_) (fun c26 => ?_)
          · exfalso
            omega
          · refine fV_aload_n (pc' := 456) G 2 dL_law_455 rfl rfl rfl ?_
            refine fV_callSf (v := some (.long (i64 (dig (σ))))) (I' := K447) (P' := P24) (st' := [.long (i64 (dig (σ)))]) (n := 1) (As := [.ref (Γ.1 0)]) (rest := []) (pc' := 459) G (by have h9 := mL_digest l Γ hN K447 P24 (Sim_all S5.1); rw [digX_eq S5] at h9; exact h9) kcL_law_80 rfl rfl (Nat.le_of_ble_eq_true rfl) hkc hks dL_law_456 rfl rfl ?_
            refine fV_lload_n (pc' := 460) G 0 dL_law_459 rfl rfl rfl ?_
            refine fV_lcmp_same (pc' := 461) G dL_law_460 rfl ?_
            refine fV_if_eq (tgt := 466) (pc' := 464) G dL_law_461 (by decide) rfl (by omega) (fun c27 => ?_) (fun c27 => ?_)
            · refine fV_aload_n (pc' := 467) G 2 dL_law_466 rfl rfl rfl ?_
              have hcl := St_c0 S5
              refine fV_callV (n := 0) (k := 0) (K := 3) (As := []) (rest := []) (pc' := 470) G (mX3_load l Γ hN K447 P24 (Sim_all S5.1) hcl.2.2.2 hcl.2.1 hcl.2.2.1 S5.1.2.2.2.1.2.2.2) kcL_law_98 (by omega) rfl rfl rfl rfl (Nat.le_of_ble_eq_true rfl) hkc hks dL_law_467 rfl (fun v28 I29 P30 h31 => ?_)
              obtain ⟨hv, K467, hK, S6⟩ := g_load S5 (by decide) h31
              refine fV_gh hK ?_
              refine fV_st (st' := [.int (i32 0)]) (by rw [hv]; rfl) ?_
              refine fV_if_ne (tgt := 507) (pc' := 473) G dL_law_470 (by decide) rfl (by omega) (fun c32 => ?_) (fun c32 => ?_)
              · exfalso
                omega
              · refine fV_aload_n (pc' := 474) G 2 dL_law_473 rfl rfl rfl ?_
                refine fV_callSf (v := some (.long (i64 (dig (σ))))) (I' := K467) (P' := P30) (st' := [.long (i64 (dig (σ)))]) (n := 1) (As := [.ref (Γ.1 0)]) (rest := []) (pc' := 477) G (by have h9 := mL_digest l Γ hN K467 P30 (Sim_all S6.1); rw [digX_eq S6] at h9; exact h9) kcL_law_80 rfl rfl (Nat.le_of_ble_eq_true rfl) hkc hks dL_law_474 rfl rfl ?_
                refine fV_lload_n (pc' := 478) G 0 dL_law_477 rfl rfl rfl ?_
                refine fV_lcmp_same (pc' := 479) G dL_law_478 rfl ?_
                refine fV_if_ne (tgt := 507) (pc' := 482) G dL_law_479 (by decide) rfl (by omega) (fun c33 => ?_) (fun c33 => ?_)
                · exfalso
                  omega
                · refine fV_aload_n (pc' := 483) G 2 dL_law_482 rfl rfl rfl ?_
                  refine fV_bipush (n := 7) (pc' := 485) G dL_law_483 rfl rfl ?_
                  have hc34 : qXCount K467 P30 7 = -11 := rfl
                  refine fV_callVf (v := some (.int (i32 (-11)))) (I' := K467) (P' := P30) (st' := [.int (i32 (-11))]) (n := 1) (k := 0) (K := 3) (As := [.int (i32 7)]) (rest := []) (pc' := 488) G (by have h9 := mX3_count l Γ hN K467 P30 (xAll_ok (Sim_all S6.1)) 7 (by omega); rw [hc34] at h9; exact h9) kcL_law_12 (by omega) rfl rfl rfl rfl (Nat.le_of_ble_eq_true rfl) hkc hks dL_law_485 rfl rfl ?_
                  refine fV_bipush (n := -11) (pc' := 490) G dL_law_488 rfl rfl ?_
                  refine fV_icmp_ne (tgt := 507) (pc' := 493) G dL_law_490 (by decide) rfl (by decide) (by decide) (fun c35 => ?_) (fun c35 => ?_)
                  · exfalso
                    omega
                  · refine fV_aload_n (pc' := 494) G 2 dL_law_493 rfl rfl rfl ?_
                    refine fV_iconst (pc' := 495) G dL_law_494 rfl ?_
                    refine fV_callVf (v := some (.int (i32 (-11)))) (I' := K467) (P' := P30) (st' := [.int (i32 (-11))]) (n := 1) (k := 0) (K := 3) (As := [.int (i32 0)]) (rest := []) (pc' := 498) G (by have h9 := mX3_append l Γ hN K467 P30 (Sim_all S6.1) 0 (by omega); rw [(g_app0 K467).1, (g_app0 K467).2] at h9; exact h9) kcL_law_101 (by omega) rfl rfl rfl rfl (Nat.le_of_ble_eq_true rfl) hkc hks dL_law_495 rfl rfl ?_
                    refine fV_bipush (n := -11) (pc' := 500) G dL_law_498 rfl rfl ?_
                    refine fV_icmp_ne (tgt := 507) (pc' := 503) G dL_law_500 (by decide) rfl (by decide) (by decide) (fun c36 => ?_) (fun c36 => ?_)
                    · exfalso
                      omega
                    · exact stop _ _ _
            · exfalso
              omega
set_option maxHeartbeats 4000000 in
set_option maxRecDepth 100000 in
theorem lawL2 {p : Program} {l : Launch} {e : Env} {s : State} {m : MethodId} {b : Nat} {below : List Frame} {meth : Method} {c : Code} {Q : State → Prop} {A : Nat → Prop} {Γ : fG} {kc ks : Nat} {ret : Option FieldType} {L : Nat} {xs : Nat → Int32} (G : fC p s m #[Value.ref b] meth c cL_law RL wsL_law A Γ 214 14 ret) (hXS : va_X b L xs s s.heap) (hbl : b < s.heap.size) (hbA : ¬ A b) (hL : L ≤ 260) (hkc : kc ≤ room_1.cells) (hks : ks ≤ room_1.slots) (stop : ∀ (J : fM) (Q2 : fN) (lv : List (Nat × Value)), fV p l e room_1 s m #[Value.ref b] below meth c Q A Γ 214 14 kc ks J Q2 503 lv []) : ∀ (n : Nat) (I : fM) (P : fN) (σ : Int → Int) (t : Int), St0 I P σ → 0 ≤ t → t ≤ 14 → 14 - t < (n : Int) → fV p l e room_1 s m #[Value.ref b] below meth c Q A Γ 214 14 kc ks I P 82 [(0, .ref b), (1, .ref (Γ.1 0)), (2, .int (i32 t))] [] := by
  intro n
  induction n with
  | zero => intro I P σ t S h0 h1 h2; exact absurd h2 (by omega)
  | succ n ih =>
    intro I P σ t S h0 h1 h2
    refine fV_iload_n (pc' := 83) G 2 dL_law_82 rfl rfl rfl ?_
    refine fV_bipush (n := 14) (pc' := 85) G dL_law_83 rfl rfl ?_
    refine fV_icmp_ge (tgt := 384) (pc' := 88) G dL_law_85 (by decide) rfl (by omega) (by decide) (fun c1 => ?_) (fun c1 => ?_)
    · refine fV_lv (lv' := [(0, .ref b), (1, .ref (Γ.1 0)), (2, .int (i32 t))]) [0, 1, 2] rfl ?_
      exact lawD G hXS hbl hbA hL hkc hks S t stop
    · refine lawB G hXS hbl hbA hL hkc hks S t (by omega) (fun J Q2 ρ S2 => ?_)
      refine fV_iinc (lv' := [(2, .int (i32 (t + 1))), (0, .ref b), (1, .ref (Γ.1 0))]) (pc' := 381) G 2 dL_law_378 rfl (by decide) rfl rfl ?_
      refine fV_goto (tgt := 82) G dL_law_381 (by decide) ?_
      refine fV_lv (lv' := [(0, .ref b), (1, .ref (Γ.1 0)), (2, .int (i32 (t + 1)))]) [1, 2, 0] rfl ?_
      exact ih J Q2 ρ (t + 1) S2 (by omega) (by omega) (by omega)
set_option maxHeartbeats 4000000 in
set_option maxRecDepth 100000 in
theorem lawL1 {p : Program} {l : Launch} {e : Env} {s : State} {m : MethodId} {b : Nat} {below : List Frame} {meth : Method} {c : Code} {Q : State → Prop} {A : Nat → Prop} {Γ : fG} {kc ks : Nat} {ret : Option FieldType} {L : Nat} {xs : Nat → Int32} (G : fC p s m #[Value.ref b] meth c cL_law RL wsL_law A Γ 214 14 ret) (hXS : va_X b L xs s s.heap) (hbl : b < s.heap.size) (hbA : ¬ A b) (hL : L ≤ 260) (hkc : kc ≤ room_1.cells) (hks : ks ≤ room_1.slots) (stop : ∀ (J : fM) (Q2 : fN) (lv : List (Nat × Value)), fV p l e room_1 s m #[Value.ref b] below meth c Q A Γ 214 14 kc ks J Q2 503 lv []) : ∀ (n : Nat) (I : fM) (P : fN) (σ : Int → Int) (k : Int), St0 I P σ → σ 0 = k → 0 ≤ k → k ≤ 3 → 3 - k < (n : Int) → fV p l e room_1 s m #[Value.ref b] below meth c Q A Γ 214 14 kc ks I P 10 [(0, .ref b), (1, .ref (Γ.1 0)), (2, .int (i32 k))] [] := by
  intro n
  induction n with
  | zero => intro I P σ k S hk h0 h1 h2; exact absurd h2 (by omega)
  | succ n ih =>
    intro I P σ k S hk h0 h1 h2
    have hN : 214 ≤ 214 := Nat.le_refl _
    refine fV_iload_n (pc' := 11) G 2 dL_law_10 rfl rfl rfl ?_
    refine fV_iconst (pc' := 12) G dL_law_11 rfl ?_
    refine fV_icmp_ge (tgt := 80) (pc' := 15) G dL_law_12 (by decide) rfl (by omega) (by decide) (fun c1 => ?_) (fun c1 => ?_)
    · refine fV_iconst (pc' := 81) G dL_law_80 rfl ?_
      refine fV_istore_n (lv' := [(2, .int (i32 0)), (0, .ref b), (1, .ref (Γ.1 0))]) (pc' := 82) G dL_law_81 rfl (by decide) rfl rfl ?_
      refine fV_lv (lv' := [(0, .ref b), (1, .ref (Γ.1 0)), (2, .int (i32 0))]) [1, 2, 0] rfl ?_
      exact lawL2 G hXS hbl hbA hL hkc hks stop 20 I P σ 0 S (by omega) (by omega) (by omega)
    · refine fV_aload_n (pc' := 16) G 0 dL_law_15 rfl rfl rfl ?_
      refine fV_iload_n (pc' := 17) G 2 dL_law_16 rfl rfl rfl ?_
      refine fV_cell (rest := []) (pc' := 20) G hXS hbl hbA hL (by omega) (Nat.le_of_ble_eq_true rfl) hkc hks dL_law_17 rfl (fun y => ?_)
      refine fV_istore_n (lv' := [(3, .int (i32 y)), (0, .ref b), (1, .ref (Γ.1 0)), (2, .int (i32 k))]) (pc' := 21) G dL_law_20 rfl (by decide) rfl rfl ?_
      refine fV_aload_n (pc' := 22) G 2 dL_law_21 rfl rfl rfl ?_
      refine fV_iconst (pc' := 23) G dL_law_22 rfl ?_
      refine fV_iload_n (pc' := 24) G 0 dL_law_23 rfl rfl rfl ?_
      refine fV_bipush (n := 12) (pc' := 26) G dL_law_24 rfl rfl ?_
      obtain ⟨l1, hl1⟩ : ∃ x, x = lo y 12 := ⟨_, rfl⟩
      have bl1 := lo_b y (n := 12) (by omega)
      rw [← hl1] at bl1
      refine fV_callSf (v := some (.int (i32 l1))) (I' := I) (P' := P) (st' := [.int (i32 l1), .int (i32 1), .ref (Γ.1 0)]) (n := 2) (As := [.int (i32 y), .int (i32 12)]) (rest := [.int (i32 1), .ref (Γ.1 0)]) (pc' := 29) G (by have h9 := mL_low l Γ hN I P y 12 (by omega); rw [← hl1] at h9; exact h9) kcL_law_28 rfl rfl (Nat.le_of_ble_eq_true rfl) hkc hks dL_law_26 rfl rfl ?_
      refine fV_iadd (pc' := 30) G dL_law_29 rfl ?_
      refine fV_iload_n (pc' := 31) G 0 dL_law_30 rfl rfl rfl ?_
      refine fV_iconst (pc' := 32) G dL_law_31 rfl ?_
      refine fV_ishrr (t := sr y 4) (pc' := 33) G rfl dL_law_32 rfl ?_
      refine fV_bipush (n := 50) (pc' := 35) G dL_law_33 rfl rfl ?_
      obtain ⟨l2, hl2⟩ : ∃ x, x = lo (sr y 4) 50 := ⟨_, rfl⟩
      have bl2 := lo_b (sr y 4) (n := 50) (by omega)
      rw [← hl2] at bl2
      refine fV_callSf (v := some (.int (i32 l2))) (I' := I) (P' := P) (st' := [.int (i32 l2), .int (i32 (1 + l1)), .ref (Γ.1 0)]) (n := 2) (As := [.int (i32 (sr y 4)), .int (i32 50)]) (rest := [.int (i32 (1 + l1)), .ref (Γ.1 0)]) (pc' := 38) G (by have h9 := mL_low l Γ hN I P (sr y 4) 50 (by omega); rw [← hl2] at h9; exact h9) kcL_law_28 rfl rfl (Nat.le_of_ble_eq_true rfl) hkc hks dL_law_35 rfl rfl ?_
      refine fV_iconst (pc' := 39) G dL_law_38 rfl ?_
      refine fV_iload_n (pc' := 40) G 0 dL_law_39 rfl rfl rfl ?_
      refine fV_iconst (pc' := 41) G dL_law_40 rfl ?_
      refine fV_ishrr (t := sr y 5) (pc' := 42) G rfl dL_law_41 rfl ?_
      refine fV_bipush (n := 20) (pc' := 44) G dL_law_42 rfl rfl ?_
      obtain ⟨l3, hl3⟩ : ∃ x, x = lo (sr y 5) 20 := ⟨_, rfl⟩
      have bl3 := lo_b (sr y 5) (n := 20) (by omega)
      rw [← hl3] at bl3
      refine fV_callSf (v := some (.int (i32 l3))) (I' := I) (P' := P) (st' := [.int (i32 l3), .int (i32 1), .int (i32 l2), .int (i32 (1 + l1)), .ref (Γ.1 0)]) (n := 2) (As := [.int (i32 (sr y 5)), .int (i32 20)]) (rest := [.int (i32 1), .int (i32 l2), .int (i32 (1 + l1)), .ref (Γ.1 0)]) (pc' := 47) G (by have h9 := mL_low l Γ hN I P (sr y 5) 20 (by omega); rw [← hl3] at h9; exact h9) kcL_law_28 rfl rfl (Nat.le_of_ble_eq_true rfl) hkc hks dL_law_44 rfl rfl ?_
      refine fV_iadd (pc' := 48) G dL_law_47 rfl ?_
      refine fV_iload_n (pc' := 49) G 0 dL_law_48 rfl rfl rfl ?_
      refine fV_bipush (n := 6) (pc' := 51) G dL_law_49 rfl rfl ?_
      refine fV_ishrr (t := sr y 6) (pc' := 52) G rfl dL_law_51 rfl ?_
      refine fV_bipush (n := 10) (pc' := 54) G dL_law_52 rfl rfl ?_
      obtain ⟨l4, hl4⟩ : ∃ x, x = lo (sr y 6) 10 := ⟨_, rfl⟩
      have bl4 := lo_b (sr y 6) (n := 10) (by omega)
      rw [← hl4] at bl4
      refine fV_callSf (v := some (.int (i32 l4))) (I' := I) (P' := P) (st' := [.int (i32 l4), .int (i32 (1 + l3)), .int (i32 l2), .int (i32 (1 + l1)), .ref (Γ.1 0)]) (n := 2) (As := [.int (i32 (sr y 6)), .int (i32 10)]) (rest := [.int (i32 (1 + l3)), .int (i32 l2), .int (i32 (1 + l1)), .ref (Γ.1 0)]) (pc' := 57) G (by have h9 := mL_low l Γ hN I P (sr y 6) 10 (by omega); rw [← hl4] at h9; exact h9) kcL_law_28 rfl rfl (Nat.le_of_ble_eq_true rfl) hkc hks dL_law_54 rfl rfl ?_
      refine fV_iload_n (pc' := 58) G 0 dL_law_57 rfl rfl rfl ?_
      refine fV_bipush (n := 8) (pc' := 60) G dL_law_58 rfl rfl ?_
      refine fV_ishrr (t := sr y 8) (pc' := 61) G rfl dL_law_60 rfl ?_
      refine fV_iconst (pc' := 62) G dL_law_61 rfl ?_
      obtain ⟨l5, hl5⟩ : ∃ x, x = lo (sr y 8) 5 := ⟨_, rfl⟩
      have bl5 := lo_b (sr y 8) (n := 5) (by omega)
      rw [← hl5] at bl5
      refine fV_callSf (v := some (.int (i32 l5))) (I' := I) (P' := P) (st' := [.int (i32 l5), .int (i32 l4), .int (i32 (1 + l3)), .int (i32 l2), .int (i32 (1 + l1)), .ref (Γ.1 0)]) (n := 2) (As := [.int (i32 (sr y 8)), .int (i32 5)]) (rest := [.int (i32 l4), .int (i32 (1 + l3)), .int (i32 l2), .int (i32 (1 + l1)), .ref (Γ.1 0)]) (pc' := 65) G (by have h9 := mL_low l Γ hN I P (sr y 8) 5 (by omega); rw [← hl5] at h9; exact h9) kcL_law_28 rfl rfl (Nat.le_of_ble_eq_true rfl) hkc hks dL_law_62 rfl rfl ?_
      refine fV_callV (n := 5) (k := 0) (K := 3) (As := [.int (i32 (1 + l1)), .int (i32 l2), .int (i32 (1 + l3)), .int (i32 l4), .int (i32 l5)]) (rest := []) (pc' := 68) G (mX3_addWord l Γ hN I P (Sim_all S.1) (1 + l1) l2 (1 + l3) l4 l5 (by omega) (by omega) (by omega) (by omega) (by omega)) kcL_law_33 (by omega) rfl rfl rfl rfl (Nat.le_of_ble_eq_true rfl) hkc hks dL_law_65 rfl (fun v2 I3 P4 h5 => ?_)
      obtain ⟨hv, hA⟩ := h5
      obtain ⟨hq, K65, hK, hO⟩ := g_add S (by decide) hA
      rw [hq] at hv
      have hva : vAdd (σ) (1 + l1) l2 (1 + l3) l4 l5 = k := by unfold vAdd; rw [if_pos ⟨by omega, by omega, by omega, by omega, by omega⟩, if_neg (by omega), hk]
      rw [hva] at hv
      have S1 := o_yes hO (by omega)
      refine fV_gh hK ?_
      refine fV_st (st' := [.int (i32 k)]) (by rw [hv]; rfl) ?_
      refine fV_iload_n (pc' := 69) G 3 dL_law_68 rfl rfl rfl ?_
      refine fV_icmp_eq (tgt := 74) (pc' := 72) G dL_law_69 (by decide) rfl (by omega) (by omega) (fun c6 => ?_) (fun c6 => ?_)
      · refine fV_iinc (lv' := [(2, .int (i32 (k + 1))), (3, .int (i32 y)), (0, .ref b), (1, .ref (Γ.1 0))]) (pc' := 77) G 3 dL_law_74 rfl (by decide) rfl rfl ?_
        refine fV_goto (tgt := 10) G dL_law_77 (by decide) ?_
        refine fV_lv (lv' := [(0, .ref b), (1, .ref (Γ.1 0)), (2, .int (i32 (k + 1)))]) [2, 3, 0] rfl ?_
        exact ih _ _ _ (k + 1) (St_0 S1) (by rw [tAdd_0 (by omega) (by omega), hk]) (by omega) (by omega) (by omega)
      · exfalso
        omega
