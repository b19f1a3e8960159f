/-! LAW: isRight (rows laid by wip/p27/gen/lcon2.py) -/
theorem fil_b (I : fM) (P : fN) {f : Int} (hf : 0 ≤ f ∧ f ≤ 4000) : qXFilled I P f ≤ 320 := by
  unfold qXFilled
  rw [if_pos hf]
  have h : ∀ S : Int → Prop, sPop S ≤ 40 := fun S => by
    unfold sPop
    exact (sSum_bi (fun j => by
      by_cases z : S j
      · rw [@if_pos _ (Classical.propDecidable _) z]; decide
      · rw [@if_neg _ (Classical.propDecidable _) z]; decide) (by decide)).2
  exact Int.le_trans (sSum_le (h := fun _ => 40) (fun i _ _ => h _)) (by decide)
set_option maxHeartbeats 4000000 in
set_option maxRecDepth 100000 in
theorem mL_isRight (l : Launch) (Γ : fG) {N : Nat} (hN : 214 ≤ N) (I : fM) (P : fN) {σ : Int → Int} {κ : Nat} {τ : Nat → Int → Int} (S : St I P σ κ τ) : fMet l yL_isRight wsL_isRight rmL_isRight Γ N [.ref (Γ.1 0)] I P (fE (some (.int (i32 (fB true)))) I P) := by
  refine fMet_of (own := RL) (cc := cL_isRight) (maxL := 9) (ret := (some .boolean)) rfl (by decide +kernel) rfl (Nat.le_of_ble_eq_true rfl) ?_
  intro p e s m args below meth c G
  have ho := Sim_all S.1
  obtain ⟨⟨⟨hv1, hv3, hv4, hvs⟩, hww, -⟩, hpa, hhs, -, h03, hl12⟩ := id ho
  clear hww hvs hpa hhs
  have hc0 : qXCount I P 0 = I 1 1 := if_pos rfl
  have hc2 : qXCount I P 2 = I 1 3 := rfl
  refine fV_lv (lv' := [(0, .ref (Γ.1 0))]) [0] rfl ?_
  refine fV_iconst (pc' := 1) G dL_isRight_0 rfl ?_
  refine fV_istore_n (lv' := [(1, .int (i32 0)), (0, .ref (Γ.1 0))]) (pc' := 2) G dL_isRight_1 rfl (by decide) rfl rfl ?_
  refine fV_iconst (pc' := 3) G dL_isRight_2 rfl ?_
  refine fV_istore_n (lv' := [(2, .int (i32 0)), (1, .int (i32 0)), (0, .ref (Γ.1 0))]) (pc' := 4) G dL_isRight_3 rfl (by decide) rfl rfl ?_
  refine fV_iconst (pc' := 5) G dL_isRight_4 rfl ?_
  refine fV_istore_n (lv' := [(3, .int (i32 0)), (2, .int (i32 0)), (1, .int (i32 0)), (0, .ref (Γ.1 0))]) (pc' := 6) G dL_isRight_5 rfl (by decide) rfl rfl ?_
  have l1 : ∀ (z : Nat) (kk : Int) (pu : Int) (pr : Int), 0 ≤ kk ∧ kk ≤ I 1 1 → pu = sSum (fun i => if I (P 2 i) 6 = 1 then 1 else 0) kk → pr = sSum (fun k => sSum (fun j => if xMet I P 1 j k ≠ -19 then 1 else 0) k) kk → 0 ≤ pu ∧ pu ≤ kk → 0 ≤ pr ∧ pr ≤ 12 * kk → ((I 1 1 - kk).toNat) = z → fV p l e rmL_isRight s m args below meth c (MQ below (fQ Γ N (fE (some (.int (i32 (fB true)))) I P)) args s 0 0 (fA Γ N)) (fA Γ N) Γ N 9 0 0 I P 6 [(0, .ref (Γ.1 0)), (1, .int (i32 pu)), (2, .int (i32 pr)), (3, .int (i32 kk))] [] := by
    intro z
    induction z using Nat.strongRecOn with
    | _ z ih_l1 =>
      intro kk pu pr hkk hpu hpr hpb0 hrb hz_l1
      refine fV_iload_n (pc' := 7) G 3 dL_isRight_6 rfl rfl rfl ?_
      refine fV_aload_n (pc' := 8) G 0 dL_isRight_7 rfl rfl rfl ?_
      refine fV_iconst (pc' := 9) G dL_isRight_8 rfl ?_
      refine fV_callVf (v := some (.int (i32 (I 1 1)))) (I' := I) (P' := P) (st' := [.int (i32 (I 1 1)), .int (i32 kk)]) (n := 1) (k := 0) (K := 3) (As := [.int (i32 0)]) (rest := [.int (i32 kk)]) (pc' := 12) G (by have h9 := mX3_count l Γ hN I P (xAll_ok ho) 0 (by omega); rw [hc0] at h9; exact h9) kcL_isRight_12 (by omega) rfl rfl rfl rfl (Nat.le_of_ble_eq_true rfl) (Nat.zero_le _) (Nat.zero_le _) dL_isRight_9 rfl rfl ?_
      refine fV_icmp_ge (tgt := 390) (pc' := 15) G dL_isRight_12 (by decide) rfl (by omega) (by omega) (fun c101 => ?_) (fun c101 => ?_)
      · refine fV_iconst (pc' := 391) G dL_isRight_390 rfl ?_
        refine fV_istore_n (lv' := [(3, .int (i32 1)), (0, .ref (Γ.1 0)), (1, .int (i32 pu)), (2, .int (i32 pr))]) (pc' := 392) G dL_isRight_391 rfl (by decide) rfl rfl ?_
        have l3 : ∀ (z : Nat) (i : Int), 1 ≤ i ∧ i ≤ 11 → ((12 - i).toNat) = z → fV p l e rmL_isRight s m args below meth c (MQ below (fQ Γ N (fE (some (.int (i32 (fB true)))) I P)) args s 0 0 (fA Γ N)) (fA Γ N) Γ N 9 0 0 I P 392 [(0, .ref (Γ.1 0)), (1, .int (i32 pu)), (2, .int (i32 pr)), (3, .int (i32 i))] [] := by
          intro z
          induction z using Nat.strongRecOn with
          | _ z ih_l3 =>
            intro i hi hz_l3
            refine fV_iload_n (pc' := 393) G 3 dL_isRight_392 rfl rfl rfl ?_
            refine fV_aload_n (pc' := 394) G 0 dL_isRight_393 rfl rfl rfl ?_
            refine fV_iconst (pc' := 395) G dL_isRight_394 rfl ?_
            refine fV_callVf (v := some (.int (i32 (I 1 3)))) (I' := I) (P' := P) (st' := [.int (i32 (I 1 3)), .int (i32 i)]) (n := 1) (k := 0) (K := 3) (As := [.int (i32 2)]) (rest := [.int (i32 i)]) (pc' := 398) G (by have h9 := mX3_count l Γ hN I P (xAll_ok ho) 2 (by omega); rw [hc2] at h9; exact h9) kcL_isRight_12 (by omega) rfl rfl rfl rfl (Nat.le_of_ble_eq_true rfl) (Nat.zero_le _) (Nat.zero_le _) dL_isRight_395 rfl rfl ?_
            refine fV_icmp_ge (tgt := 424) (pc' := 401) G dL_isRight_398 (by decide) rfl (by omega) (by omega) (fun c202 => ?_) (fun c202 => ?_)
            · have hf1 : pu = qXCount I P 1 := by rw [hpu, show kk = I 1 1 by omega]; exact put_by
              have hf2 : pr = qXCount I P 4 := by rw [hpr, show kk = I 1 1 by omega, pairs_by (by omega)]; rfl
              refine fV_iload_n (pc' := 425) G 1 dL_isRight_424 rfl rfl rfl ?_
              refine fV_aload_n (pc' := 426) G 0 dL_isRight_425 rfl rfl rfl ?_
              refine fV_iconst (pc' := 427) G dL_isRight_426 rfl ?_
              refine fV_callVf (st' := [.int (i32 (qXCount I P 1)), .int (i32 pu)]) (n := 1) (k := 0) (K := 3) (As := [.int (i32 1)]) (rest := [.int (i32 pu)]) (pc' := 430) G (mX3_count l Γ hN I P (xAll_ok ho) 1 (by omega)) kcL_isRight_12 (by omega) rfl rfl rfl rfl (Nat.le_of_ble_eq_true rfl) (Nat.zero_le _) (Nat.zero_le _) dL_isRight_427 rfl rfl ?_
              refine fV_icmp_ne (tgt := 460) (pc' := 433) G dL_isRight_430 (by decide) rfl (by omega) (by omega) (fun c203 => ?_) (fun c203 => ?_)
              · exfalso
                omega
              · refine fV_iload_n (pc' := 434) G 2 dL_isRight_433 rfl rfl rfl ?_
                refine fV_aload_n (pc' := 435) G 0 dL_isRight_434 rfl rfl rfl ?_
                refine fV_iconst (pc' := 436) G dL_isRight_435 rfl ?_
                refine fV_callVf (st' := [.int (i32 (qXCount I P 4)), .int (i32 pr)]) (n := 1) (k := 0) (K := 3) (As := [.int (i32 4)]) (rest := [.int (i32 pr)]) (pc' := 439) G (mX3_count l Γ hN I P (xAll_ok ho) 4 (by omega)) kcL_isRight_12 (by omega) rfl rfl rfl rfl (Nat.le_of_ble_eq_true rfl) (Nat.zero_le _) (Nat.zero_le _) dL_isRight_436 rfl rfl ?_
                refine fV_icmp_ne (tgt := 460) (pc' := 442) G dL_isRight_439 (by decide) rfl (by omega) (by omega) (fun c204 => ?_) (fun c204 => ?_)
                · exfalso
                  omega
                · refine fV_aload_n (pc' := 443) G 0 dL_isRight_442 rfl rfl rfl ?_
                  refine fV_aload_n (pc' := 444) G 0 dL_isRight_443 rfl rfl rfl ?_
                  refine fV_iconst (pc' := 445) G dL_isRight_444 rfl ?_
                  refine fV_callVf (v := some (.int (i32 (I 1 3)))) (I' := I) (P' := P) (st' := [.int (i32 (I 1 3)), .ref (Γ.1 0)]) (n := 1) (k := 0) (K := 3) (As := [.int (i32 2)]) (rest := [.ref (Γ.1 0)]) (pc' := 448) G (by have h9 := mX3_count l Γ hN I P (xAll_ok ho) 2 (by omega); rw [hc2] at h9; exact h9) kcL_isRight_12 (by omega) rfl rfl rfl rfl (Nat.le_of_ble_eq_true rfl) (Nat.zero_le _) (Nat.zero_le _) dL_isRight_445 rfl rfl ?_
                  refine fV_callVf (v := some (.int (i32 (-19)))) (I' := I) (P' := P) (st' := [.int (i32 (-19))]) (n := 1) (k := 0) (K := 3) (As := [.int (i32 (I 1 3))]) (rest := []) (pc' := 451) G (by have h9 := mX3_shot l Γ hN I P (xAll_ok ho) (I 1 3) (by omega); rw [ri_shot9 (by omega)] at h9; exact h9) kcL_isRight_25 (by omega) rfl rfl rfl rfl (Nat.le_of_ble_eq_true rfl) (Nat.zero_le _) (Nat.zero_le _) dL_isRight_448 rfl rfl ?_
                  refine fV_bipush (n := -19) (pc' := 453) G dL_isRight_451 rfl rfl ?_
                  refine fV_icmp_ne (tgt := 460) (pc' := 456) G dL_isRight_453 (by decide) rfl (by decide) (by decide) (fun c205 => ?_) (fun c205 => ?_)
                  · exfalso
                    omega
                  · refine fV_iconst (pc' := 457) G dL_isRight_456 rfl ?_
                    refine fV_goto (tgt := 461) G dL_isRight_457 (by decide) ?_
                    refine fV_zret (b := true) G dL_isRight_461 ?_
                    exact ⟨rfl, rfl, rfl⟩
            · have hsh := ri_shot S (i := i) (by omega) (by omega)
              refine fV_aload_n (pc' := 402) G 0 dL_isRight_401 rfl rfl rfl ?_
              refine fV_iload_n (pc' := 403) G 3 dL_isRight_402 rfl rfl rfl ?_
              refine fV_callVf (st' := [.int (i32 (qXShot I i))]) (n := 1) (k := 0) (K := 3) (As := [.int (i32 i)]) (rest := []) (pc' := 406) G (mX3_shot l Γ hN I P (xAll_ok ho) i (by omega)) kcL_isRight_25 (by omega) rfl rfl rfl rfl (Nat.le_of_ble_eq_true rfl) (Nat.zero_le _) (Nat.zero_le _) dL_isRight_403 rfl rfl ?_
              refine fV_aload_n (pc' := 407) G 0 dL_isRight_406 rfl rfl rfl ?_
              refine fV_iload_n (pc' := 408) G 3 dL_isRight_407 rfl rfl rfl ?_
              refine fV_iconst (pc' := 409) G dL_isRight_408 rfl ?_
              refine fV_isub (pc' := 410) G dL_isRight_409 rfl ?_
              refine fV_callVf (st' := [.int (i32 (qXShot I (i - 1))), .int (i32 (qXShot I i))]) (n := 1) (k := 0) (K := 3) (As := [.int (i32 (i - 1))]) (rest := [.int (i32 (qXShot I i))]) (pc' := 413) G (mX3_shot l Γ hN I P (xAll_ok ho) (i - 1) (by omega)) kcL_isRight_25 (by omega) rfl rfl rfl rfl (Nat.le_of_ble_eq_true rfl) (Nat.zero_le _) (Nat.zero_le _) dL_isRight_410 rfl rfl ?_
              refine fV_icmp_gt (tgt := 418) (pc' := 416) G dL_isRight_413 (by decide) rfl (by omega) (by omega) (fun c203 => ?_) (fun c203 => ?_)
              · refine fV_iinc (lv' := [(3, .int (i32 (i + 1))), (0, .ref (Γ.1 0)), (1, .int (i32 pu)), (2, .int (i32 pr))]) (pc' := 421) G 3 dL_isRight_418 rfl (by decide) rfl rfl ?_
                refine fV_goto (tgt := 392) G dL_isRight_421 (by decide) ?_
                refine fV_lv (lv' := [(0, .ref (Γ.1 0)), (1, .int (i32 pu)), (2, .int (i32 pr)), (3, .int (i32 (i + 1)))]) [1, 2, 3, 0] rfl ?_
                exact ih_l3 _ (by omega) (i + 1) (by omega) rfl
              · exfalso
                omega
        refine fV_lv (lv' := [(0, .ref (Γ.1 0)), (1, .int (i32 pu)), (2, .int (i32 pr)), (3, .int (i32 1))]) [1, 2, 3, 0] rfl ?_
        exact l3 _ 1 (by omega) rfl
      · have tail : ∀ pu2 : Int, pu2 = sSum (fun i => if I (P 2 i) 6 = 1 then 1 else 0) (kk + 1) → fV p l e rmL_isRight s m args below meth c (MQ below (fQ Γ N (fE (some (.int (i32 (fB true)))) I P)) args s 0 0 (fA Γ N)) (fA Γ N) Γ N 9 0 0 I P 279 [(0, .ref (Γ.1 0)), (1, .int (i32 pu2)), (2, .int (i32 pr)), (3, .int (i32 kk))] [] := by
          intro pu2 hpu2
          have hpb := sSum_bi (g := fun i => if I (P 2 i) 6 = 1 then 1 else 0) (fun i => by (try dsimp only); split <;> omega) (n := kk + 1) (by omega)
          rw [← hpu2] at hpb
          refine fV_iconst (pc' := 280) G dL_isRight_279 rfl ?_
          refine fV_istore (lv' := [(7, .int (i32 0)), (0, .ref (Γ.1 0)), (1, .int (i32 pu2)), (2, .int (i32 pr)), (3, .int (i32 kk))]) (pc' := 282) G dL_isRight_280 (by decide) rfl rfl ?_
          have l2 : ∀ (z : Nat) (jj : Int) (pr2 : Int), 0 ≤ jj ∧ jj ≤ kk → pr2 = pr + sSum (fun j => if xMet I P 1 j kk ≠ -19 then 1 else 0) jj → pr ≤ pr2 ∧ pr2 ≤ pr + jj → ((kk - jj).toNat) = z → fV p l e rmL_isRight s m args below meth c (MQ below (fQ Γ N (fE (some (.int (i32 (fB true)))) I P)) args s 0 0 (fA Γ N)) (fA Γ N) Γ N 9 0 0 I P 282 [(0, .ref (Γ.1 0)), (1, .int (i32 pu2)), (2, .int (i32 pr2)), (3, .int (i32 kk)), (7, .int (i32 jj))] [] := by
            intro z
            induction z using Nat.strongRecOn with
            | _ z ih_l2 =>
              intro jj pr2 hjj hpr2 hrb2 hz_l2
              refine fV_iload (pc' := 284) G 4 dL_isRight_282 rfl rfl ?_
              refine fV_iload_n (pc' := 285) G 3 dL_isRight_284 rfl rfl rfl ?_
              refine fV_icmp_ge (tgt := 384) (pc' := 288) G dL_isRight_285 (by decide) rfl (by omega) (by omega) (fun c202 => ?_) (fun c202 => ?_)
              · refine fV_iinc (lv' := [(3, .int (i32 (kk + 1))), (0, .ref (Γ.1 0)), (1, .int (i32 pu2)), (2, .int (i32 pr2)), (7, .int (i32 jj))]) (pc' := 387) G 3 dL_isRight_384 rfl (by decide) rfl rfl ?_
                refine fV_goto (tgt := 6) G dL_isRight_387 (by decide) ?_
                refine fV_lv (lv' := [(0, .ref (Γ.1 0)), (1, .int (i32 pu2)), (2, .int (i32 pr2)), (3, .int (i32 (kk + 1)))]) [1, 2, 3, 0] rfl ?_
                exact ih_l1 _ (by omega) (kk + 1) pu2 pr2 (by omega) hpu2 (by rw [show (sSum (fun k => sSum (fun j => if xMet I P 1 j k ≠ -19 then 1 else 0) k) (kk + 1)) = _ from sSum_s (by omega), ← hpr, hpr2, show jj = kk by omega]) (by omega) (by omega) rfl
              · obtain ⟨m1, m2, m3⟩ := ri_meet ho (a := jj) (b := kk) (by omega) (by omega) (by omega) (by omega) (by omega)
                obtain ⟨mt, hmt⟩ : ∃ mt, mt = qXMeeting I P jj kk := ⟨_, rfl⟩
                rw [← hmt] at m1 m2 m3
                have hnx : sSum (fun j => if xMet I P 1 j kk ≠ -19 then 1 else 0) (jj + 1) = sSum (fun j => if xMet I P 1 j kk ≠ -19 then 1 else 0) jj + (if xMet I P 1 jj kk ≠ -19 then 1 else 0) := sSum_s (by omega)
                rcases m3 with m3 | ⟨⟨m3, m4⟩, m5, m6, m7, m8, m9⟩
                · rw [if_neg (by rw [← m2]; omega)] at hnx
                  refine fV_aload_n (pc' := 289) G 0 dL_isRight_288 rfl rfl rfl ?_
                  refine fV_iload (pc' := 291) G 4 dL_isRight_289 rfl rfl ?_
                  refine fV_iload_n (pc' := 292) G 3 dL_isRight_291 rfl rfl rfl ?_
                  refine fV_callVf (v := some (.int (i32 mt))) (I' := I) (P' := P) (st' := [.int (i32 mt)]) (n := 2) (k := 0) (K := 3) (As := [.int (i32 jj), .int (i32 kk)]) (rest := []) (pc' := 295) G (by have h9 := mX3_meeting l Γ hN I P (xAll_ok ho) jj kk (by omega) (by omega); rw [← hmt] at h9; exact h9) kcL_isRight_72 (by omega) rfl rfl rfl rfl (Nat.le_of_ble_eq_true rfl) (Nat.zero_le _) (Nat.zero_le _) dL_isRight_292 rfl rfl ?_
                  refine fV_istore (lv' := [(8, .int (i32 mt)), (0, .ref (Γ.1 0)), (1, .int (i32 pu2)), (2, .int (i32 pr2)), (3, .int (i32 kk)), (7, .int (i32 jj))]) (pc' := 297) G dL_isRight_295 (by decide) rfl rfl ?_
                  refine fV_iload_n (pc' := 298) G 3 dL_isRight_297 rfl rfl rfl ?_
                  refine fV_iload (pc' := 300) G 0 dL_isRight_298 rfl rfl ?_
                  refine fV_if_lt (tgt := 307) (pc' := 303) G dL_isRight_300 (by decide) rfl (by omega) (fun c203 => ?_) (fun c203 => ?_)
                  · refine fV_iconst (pc' := 308) G dL_isRight_307 rfl ?_
                    refine fV_iadd (pc' := 309) G dL_isRight_308 rfl ?_
                    refine fV_istore_n (lv' := [(2, .int (i32 (pr2 + 0))), (8, .int (i32 mt)), (0, .ref (Γ.1 0)), (1, .int (i32 pu2)), (3, .int (i32 kk)), (7, .int (i32 jj))]) (pc' := 310) G dL_isRight_309 rfl (by decide) rfl rfl ?_
                    refine fV_iload (pc' := 312) G 1 dL_isRight_310 rfl rfl ?_
                    refine fV_aload_n (pc' := 313) G 2 dL_isRight_312 rfl rfl rfl ?_
                    refine fV_iload_n (pc' := 314) G 4 dL_isRight_313 rfl rfl rfl ?_
                    refine fV_iload (pc' := 316) G 5 dL_isRight_314 rfl rfl ?_
                    refine fV_callVf (v := some (.int (i32 mt))) (I' := I) (P' := P) (st' := [.int (i32 mt), .int (i32 mt)]) (n := 2) (k := 0) (K := 3) (As := [.int (i32 kk), .int (i32 jj)]) (rest := [.int (i32 mt)]) (pc' := 319) G (by have h9 := mX3_meeting l Γ hN I P (xAll_ok ho) kk jj (by omega) (by omega); rw [m1] at h9; exact h9) kcL_isRight_72 (by omega) rfl rfl rfl rfl (Nat.le_of_ble_eq_true rfl) (Nat.zero_le _) (Nat.zero_le _) dL_isRight_316 rfl rfl ?_
                    refine fV_icmp_ne (tgt := 376) (pc' := 322) G dL_isRight_319 (by decide) rfl (by omega) (by omega) (fun c204 => ?_) (fun c204 => ?_)
                    · exfalso
                      omega
                    · refine fV_iload (pc' := 324) G 1 dL_isRight_322 rfl rfl ?_
                      refine fV_if_lt (tgt := 378) (pc' := 327) G dL_isRight_324 (by decide) rfl (by omega) (fun c205 => ?_) (fun c205 => ?_)
                      · refine fV_iinc (lv' := [(7, .int (i32 (jj + 1))), (2, .int (i32 (pr2 + 0))), (8, .int (i32 mt)), (0, .ref (Γ.1 0)), (1, .int (i32 pu2)), (3, .int (i32 kk))]) (pc' := 381) G 5 dL_isRight_378 rfl (by decide) rfl rfl ?_
                        refine fV_goto (tgt := 282) G dL_isRight_381 (by decide) ?_
                        refine fV_lv (lv' := [(0, .ref (Γ.1 0)), (1, .int (i32 pu2)), (2, .int (i32 (pr2 + 0))), (3, .int (i32 kk)), (7, .int (i32 (jj + 1)))]) [3, 4, 1, 5, 0] rfl ?_
                        exact ih_l2 _ (by omega) (jj + 1) (pr2 + 0) (by omega) (by rw [hnx]; omega) (by omega) rfl
                      · exfalso
                        omega
                  · exfalso
                    omega
                · rw [if_pos (by rw [← m2]; omega)] at hnx
                  have hb5 : (i32 ((qXOnScreen I P mt >>> (i32 jj &&& 31)).toInt) &&& i32 1).toInt = 1 := by rw [i32_self, m5]; rfl
                  have hb6 : (i32 ((qXOnScreen I P mt >>> (i32 kk &&& 31)).toInt) &&& i32 1).toInt = 1 := by rw [i32_self, m6]; rfl
                  refine fV_aload_n (pc' := 289) G 0 dL_isRight_288 rfl rfl rfl ?_
                  refine fV_iload (pc' := 291) G 4 dL_isRight_289 rfl rfl ?_
                  refine fV_iload_n (pc' := 292) G 3 dL_isRight_291 rfl rfl rfl ?_
                  refine fV_callVf (v := some (.int (i32 mt))) (I' := I) (P' := P) (st' := [.int (i32 mt)]) (n := 2) (k := 0) (K := 3) (As := [.int (i32 jj), .int (i32 kk)]) (rest := []) (pc' := 295) G (by have h9 := mX3_meeting l Γ hN I P (xAll_ok ho) jj kk (by omega) (by omega); rw [← hmt] at h9; exact h9) kcL_isRight_72 (by omega) rfl rfl rfl rfl (Nat.le_of_ble_eq_true rfl) (Nat.zero_le _) (Nat.zero_le _) dL_isRight_292 rfl rfl ?_
                  refine fV_istore (lv' := [(8, .int (i32 mt)), (0, .ref (Γ.1 0)), (1, .int (i32 pu2)), (2, .int (i32 pr2)), (3, .int (i32 kk)), (7, .int (i32 jj))]) (pc' := 297) G dL_isRight_295 (by decide) rfl rfl ?_
                  refine fV_iload_n (pc' := 298) G 3 dL_isRight_297 rfl rfl rfl ?_
                  refine fV_iload (pc' := 300) G 0 dL_isRight_298 rfl rfl ?_
                  refine fV_if_lt (tgt := 307) (pc' := 303) G dL_isRight_300 (by decide) rfl (by omega) (fun c204 => ?_) (fun c204 => ?_)
                  · exfalso
                    omega
                  · refine fV_iconst (pc' := 304) G dL_isRight_303 rfl ?_
                    refine fV_goto (tgt := 308) G dL_isRight_304 (by decide) ?_
                    refine fV_iadd (pc' := 309) G dL_isRight_308 rfl ?_
                    refine fV_istore_n (lv' := [(2, .int (i32 (pr2 + 1))), (8, .int (i32 mt)), (0, .ref (Γ.1 0)), (1, .int (i32 pu2)), (3, .int (i32 kk)), (7, .int (i32 jj))]) (pc' := 310) G dL_isRight_309 rfl (by decide) rfl rfl ?_
                    refine fV_iload (pc' := 312) G 1 dL_isRight_310 rfl rfl ?_
                    refine fV_aload_n (pc' := 313) G 2 dL_isRight_312 rfl rfl rfl ?_
                    refine fV_iload_n (pc' := 314) G 4 dL_isRight_313 rfl rfl rfl ?_
                    refine fV_iload (pc' := 316) G 5 dL_isRight_314 rfl rfl ?_
                    refine fV_callVf (v := some (.int (i32 mt))) (I' := I) (P' := P) (st' := [.int (i32 mt), .int (i32 mt)]) (n := 2) (k := 0) (K := 3) (As := [.int (i32 kk), .int (i32 jj)]) (rest := [.int (i32 mt)]) (pc' := 319) G (by have h9 := mX3_meeting l Γ hN I P (xAll_ok ho) kk jj (by omega) (by omega); rw [m1] at h9; exact h9) kcL_isRight_72 (by omega) rfl rfl rfl rfl (Nat.le_of_ble_eq_true rfl) (Nat.zero_le _) (Nat.zero_le _) dL_isRight_316 rfl rfl ?_
                    refine fV_icmp_ne (tgt := 376) (pc' := 322) G dL_isRight_319 (by decide) rfl (by omega) (by omega) (fun c205 => ?_) (fun c205 => ?_)
                    · exfalso
                      omega
                    · refine fV_iload (pc' := 324) G 1 dL_isRight_322 rfl rfl ?_
                      refine fV_if_lt (tgt := 378) (pc' := 327) G dL_isRight_324 (by decide) rfl (by omega) (fun c206 => ?_) (fun c206 => ?_)
                      · exfalso
                        omega
                      · refine fV_aload_n (pc' := 328) G 2 dL_isRight_327 rfl rfl rfl ?_
                        refine fV_iload (pc' := 330) G 1 dL_isRight_328 rfl rfl ?_
                        refine fV_callVf (st' := [.int (qXOnScreen I P mt)]) (n := 1) (k := 0) (K := 3) (As := [.int (i32 mt)]) (rest := []) (pc' := 333) G (mX3_onScreen l Γ hN I P (xAll_ok ho) mt (by omega)) kcL_isRight_66 (by omega) rfl rfl rfl rfl (Nat.le_of_ble_eq_true rfl) (Nat.zero_le _) (Nat.zero_le _) dL_isRight_330 rfl rfl ?_
                        refine fV_iload_n (pc' := 334) G 4 dL_isRight_333 rfl rfl rfl ?_
                        refine fV_ishrr (t := ((qXOnScreen I P mt) >>> (i32 kk &&& 31)).toInt) (pc' := 335) G rfl dL_isRight_334 rfl ?_
                        refine fV_iconst (pc' := 336) G dL_isRight_335 rfl ?_
                        refine fV_iandr (t := (i32 (((qXOnScreen I P mt) >>> (i32 kk &&& 31)).toInt) &&& i32 1).toInt) (pc' := 337) G rfl dL_isRight_336 rfl ?_
                        refine fV_iconst (pc' := 338) G dL_isRight_337 rfl ?_
                        refine fV_icmp_ne (tgt := 376) (pc' := 341) G dL_isRight_338 (by decide) rfl (by omega) (by decide) (fun c207 => ?_) (fun c207 => ?_)
                        · exfalso
                          omega
                        · refine fV_aload_n (pc' := 342) G 2 dL_isRight_341 rfl rfl rfl ?_
                          refine fV_iload (pc' := 344) G 1 dL_isRight_342 rfl rfl ?_
                          refine fV_callVf (st' := [.int (qXOnScreen I P mt)]) (n := 1) (k := 0) (K := 3) (As := [.int (i32 mt)]) (rest := []) (pc' := 347) G (mX3_onScreen l Γ hN I P (xAll_ok ho) mt (by omega)) kcL_isRight_66 (by omega) rfl rfl rfl rfl (Nat.le_of_ble_eq_true rfl) (Nat.zero_le _) (Nat.zero_le _) dL_isRight_344 rfl rfl ?_
                          refine fV_iload (pc' := 349) G 5 dL_isRight_347 rfl rfl ?_
                          refine fV_ishrr (t := ((qXOnScreen I P mt) >>> (i32 jj &&& 31)).toInt) (pc' := 350) G rfl dL_isRight_349 rfl ?_
                          refine fV_iconst (pc' := 351) G dL_isRight_350 rfl ?_
                          refine fV_iandr (t := (i32 (((qXOnScreen I P mt) >>> (i32 jj &&& 31)).toInt) &&& i32 1).toInt) (pc' := 352) G rfl dL_isRight_351 rfl ?_
                          refine fV_iconst (pc' := 353) G dL_isRight_352 rfl ?_
                          refine fV_icmp_ne (tgt := 376) (pc' := 356) G dL_isRight_353 (by decide) rfl (by omega) (by decide) (fun c208 => ?_) (fun c208 => ?_)
                          · exfalso
                            omega
                          · refine fV_aload_n (pc' := 357) G 2 dL_isRight_356 rfl rfl rfl ?_
                            refine fV_iload (pc' := 359) G 5 dL_isRight_357 rfl rfl ?_
                            refine fV_iload (pc' := 361) G 1 dL_isRight_359 rfl rfl ?_
                            refine fV_iconst (pc' := 362) G dL_isRight_361 rfl ?_
                            refine fV_callVf (st' := [.int (i32 (qXWhere I P jj mt 0))]) (n := 3) (k := 0) (K := 3) (As := [.int (i32 jj), .int (i32 mt), .int (i32 0)]) (rest := []) (pc' := 365) G (mX3_where l Γ hN I P (xAll_ok ho) jj mt 0 (by omega) (by omega) (by omega)) kcL_isRight_63 (by omega) rfl rfl rfl rfl (Nat.le_of_ble_eq_true rfl) (Nat.zero_le _) (Nat.zero_le _) dL_isRight_362 rfl rfl ?_
                            refine fV_aload_n (pc' := 366) G 2 dL_isRight_365 rfl rfl rfl ?_
                            refine fV_iload_n (pc' := 367) G 4 dL_isRight_366 rfl rfl rfl ?_
                            refine fV_iload (pc' := 369) G 1 dL_isRight_367 rfl rfl ?_
                            refine fV_iconst (pc' := 370) G dL_isRight_369 rfl ?_
                            refine fV_callVf (st' := [.int (i32 (qXWhere I P kk mt 0)), .int (i32 (qXWhere I P jj mt 0))]) (n := 3) (k := 0) (K := 3) (As := [.int (i32 kk), .int (i32 mt), .int (i32 0)]) (rest := [.int (i32 (qXWhere I P jj mt 0))]) (pc' := 373) G (mX3_where l Γ hN I P (xAll_ok ho) kk mt 0 (by omega) (by omega) (by omega)) kcL_isRight_63 (by omega) rfl rfl rfl rfl (Nat.le_of_ble_eq_true rfl) (Nat.zero_le _) (Nat.zero_le _) dL_isRight_370 rfl rfl ?_
                            refine fV_icmp_eq (tgt := 378) (pc' := 376) G dL_isRight_373 (by decide) rfl (by omega) (by omega) (fun c209 => ?_) (fun c209 => ?_)
                            · refine fV_iinc (lv' := [(7, .int (i32 (jj + 1))), (2, .int (i32 (pr2 + 1))), (8, .int (i32 mt)), (0, .ref (Γ.1 0)), (1, .int (i32 pu2)), (3, .int (i32 kk))]) (pc' := 381) G 5 dL_isRight_378 rfl (by decide) rfl rfl ?_
                              refine fV_goto (tgt := 282) G dL_isRight_381 (by decide) ?_
                              refine fV_lv (lv' := [(0, .ref (Γ.1 0)), (1, .int (i32 pu2)), (2, .int (i32 (pr2 + 1))), (3, .int (i32 kk)), (7, .int (i32 (jj + 1)))]) [3, 4, 1, 5, 0] rfl ?_
                              exact ih_l2 _ (by omega) (jj + 1) (pr2 + 1) (by omega) (by rw [hnx]; omega) (by omega) rfl
                            · exfalso
                              omega
          refine fV_lv (lv' := [(0, .ref (Γ.1 0)), (1, .int (i32 pu2)), (2, .int (i32 pr)), (3, .int (i32 kk)), (7, .int (i32 0))]) [1, 2, 3, 4, 0] rfl ?_
          exact l2 _ 0 pr (by omega) (by rw [show (sSum (fun j => if xMet I P 1 j kk ≠ -19 then 1 else 0) 0) = 0 from rfl]; omega) (by omega) rfl
        by_cases h6 : I (P 2 kk) 6 = 1
        · obtain ⟨la, co, fi, sp, he, le, way, g, hb1, hb2, hb3, hb4, ⟨q0, q1, q2, q3, q4, q5, q6, q7⟩, ⟨w1, w2, w3, w4, w5⟩, hbit, hfil⟩ := ri_on ho (w := kk) (by omega) (by omega) h6
          obtain ⟨⟨hla, hla2⟩, hco, hcl⟩ := hb1
          obtain ⟨hfi, hsp, hhe, hle, hway⟩ := hb2
          obtain ⟨hg1, hg2⟩ := hb3
          have w3 : qXWhere I P kk (g - 1 + 1) 0 = -19 := by rw [show g - 1 + 1 = g by omega]; exact w3
          have hb7 : (i32 ((qXOnScreen I P (g - 1) >>> (i32 kk &&& 31)).toInt) &&& i32 1).toInt = 1 := by rw [i32_self, hbit]; rfl
          have hfb := fil_b I P (f := fi) (by omega)
          refine fV_aload_n (pc' := 16) G 0 dL_isRight_15 rfl rfl rfl ?_
          refine fV_iload_n (pc' := 17) G 3 dL_isRight_16 rfl rfl rfl ?_
          refine fV_iconst (pc' := 18) G dL_isRight_17 rfl ?_
          refine fV_callVf (v := some (.int (i32 la))) (I' := I) (P' := P) (st' := [.int (i32 la)]) (n := 2) (k := 0) (K := 3) (As := [.int (i32 kk), .int (i32 4)]) (rest := []) (pc' := 21) G (by have h9 := mX3_word l Γ hN I P (xAll_ok ho) kk 4 (by omega) (by omega); rw [q4] at h9; exact h9) kcL_isRight_18 (by omega) rfl rfl rfl rfl (Nat.le_of_ble_eq_true rfl) (Nat.zero_le _) (Nat.zero_le _) dL_isRight_18 rfl rfl ?_
          refine fV_istore (lv' := [(4, .int (i32 la)), (0, .ref (Γ.1 0)), (1, .int (i32 pu)), (2, .int (i32 pr)), (3, .int (i32 kk))]) (pc' := 23) G dL_isRight_21 (by decide) rfl rfl ?_
          refine fV_iload_n (pc' := 24) G 2 dL_isRight_23 rfl rfl rfl ?_
          refine fV_iload (pc' := 26) G 0 dL_isRight_24 rfl rfl ?_
          refine fV_if_lt (tgt := 33) (pc' := 29) G dL_isRight_26 (by decide) rfl (by omega) (fun c152 => ?_) (fun c152 => ?_)
          · exfalso
            omega
          · refine fV_iconst (pc' := 30) G dL_isRight_29 rfl ?_
            refine fV_goto (tgt := 34) G dL_isRight_30 (by decide) ?_
            refine fV_iadd (pc' := 35) G dL_isRight_34 rfl ?_
            refine fV_istore_n (lv' := [(1, .int (i32 (pu + 1))), (4, .int (i32 la)), (0, .ref (Γ.1 0)), (2, .int (i32 pr)), (3, .int (i32 kk))]) (pc' := 36) G dL_isRight_35 rfl (by decide) rfl rfl ?_
            refine fV_aload_n (pc' := 37) G 2 dL_isRight_36 rfl rfl rfl ?_
            refine fV_iload_n (pc' := 38) G 4 dL_isRight_37 rfl rfl rfl ?_
            refine fV_iconst (pc' := 39) G dL_isRight_38 rfl ?_
            refine fV_callVf (v := some (.int (i32 fi))) (I' := I) (P' := P) (st' := [.int (i32 fi)]) (n := 2) (k := 0) (K := 3) (As := [.int (i32 kk), .int (i32 0)]) (rest := []) (pc' := 42) G (by have h9 := mX3_word l Γ hN I P (xAll_ok ho) kk 0 (by omega) (by omega); rw [q0] at h9; exact h9) kcL_isRight_18 (by omega) rfl rfl rfl rfl (Nat.le_of_ble_eq_true rfl) (Nat.zero_le _) (Nat.zero_le _) dL_isRight_39 rfl rfl ?_
            refine fV_istore (lv' := [(5, .int (i32 fi)), (1, .int (i32 (pu + 1))), (4, .int (i32 la)), (0, .ref (Γ.1 0)), (2, .int (i32 pr)), (3, .int (i32 kk))]) (pc' := 44) G dL_isRight_42 (by decide) rfl rfl ?_
            refine fV_aload_n (pc' := 45) G 3 dL_isRight_44 rfl rfl rfl ?_
            refine fV_iload_n (pc' := 46) G 5 dL_isRight_45 rfl rfl rfl ?_
            refine fV_bipush (n := 6) (pc' := 48) G dL_isRight_46 rfl rfl ?_
            refine fV_callVf (v := some (.int (i32 (g - 1)))) (I' := I) (P' := P) (st' := [.int (i32 (g - 1))]) (n := 2) (k := 0) (K := 3) (As := [.int (i32 kk), .int (i32 6)]) (rest := []) (pc' := 51) G (by have h9 := mX3_word l Γ hN I P (xAll_ok ho) kk 6 (by omega) (by omega); rw [q6] at h9; exact h9) kcL_isRight_18 (by omega) rfl rfl rfl rfl (Nat.le_of_ble_eq_true rfl) (Nat.zero_le _) (Nat.zero_le _) dL_isRight_48 rfl rfl ?_
            refine fV_istore (lv' := [(6, .int (i32 (g - 1))), (5, .int (i32 fi)), (1, .int (i32 (pu + 1))), (4, .int (i32 la)), (0, .ref (Γ.1 0)), (2, .int (i32 pr)), (3, .int (i32 kk))]) (pc' := 53) G dL_isRight_51 (by decide) rfl rfl ?_
            refine fV_iload (pc' := 55) G 3 dL_isRight_53 rfl rfl ?_
            refine fV_if_lt (tgt := 62) (pc' := 58) G dL_isRight_55 (by decide) rfl (by omega) (fun c153 => ?_) (fun c153 => ?_)
            · exfalso
              omega
            · refine fV_iconst (pc' := 59) G dL_isRight_58 rfl ?_
              refine fV_goto (tgt := 63) G dL_isRight_59 (by decide) ?_
              refine fV_aload_n (pc' := 64) G 4 dL_isRight_63 rfl rfl rfl ?_
              refine fV_iload_n (pc' := 65) G 6 dL_isRight_64 rfl rfl rfl ?_
              refine fV_iconst (pc' := 66) G dL_isRight_65 rfl ?_
              refine fV_callVf (v := some (.int (i32 co))) (I' := I) (P' := P) (st' := [.int (i32 co), .int (i32 1)]) (n := 2) (k := 0) (K := 3) (As := [.int (i32 kk), .int (i32 5)]) (rest := [.int (i32 1)]) (pc' := 69) G (by have h9 := mX3_word l Γ hN I P (xAll_ok ho) kk 5 (by omega) (by omega); rw [q5] at h9; exact h9) kcL_isRight_18 (by omega) rfl rfl rfl rfl (Nat.le_of_ble_eq_true rfl) (Nat.zero_le _) (Nat.zero_le _) dL_isRight_66 rfl rfl ?_
              refine fV_if_lt (tgt := 76) (pc' := 72) G dL_isRight_69 (by decide) rfl (by omega) (fun c154 => ?_) (fun c154 => ?_)
              · exfalso
                omega
              · refine fV_iconst (pc' := 73) G dL_isRight_72 rfl ?_
                refine fV_goto (tgt := 77) G dL_isRight_73 (by decide) ?_
                refine fV_icmp_ne (tgt := 167) (pc' := 80) G dL_isRight_77 (by decide) rfl (by decide) (by decide) (fun c155 => ?_) (fun c155 => ?_)
                · exfalso
                  omega
                · refine fV_iload (pc' := 82) G 3 dL_isRight_80 rfl rfl ?_
                  refine fV_if_lt (tgt := 169) (pc' := 85) G dL_isRight_82 (by decide) rfl (by omega) (fun c156 => ?_) (fun c156 => ?_)
                  · exfalso
                    omega
                  · refine fV_iload (pc' := 87) G 0 dL_isRight_85 rfl rfl ?_
                    refine fV_iload (pc' := 89) G 1 dL_isRight_87 rfl rfl ?_
                    refine fV_icmp_lt (tgt := 167) (pc' := 92) G dL_isRight_89 (by decide) rfl (by omega) (by omega) (fun c157 => ?_) (fun c157 => ?_)
                    · exfalso
                      omega
                    · refine fV_aload_n (pc' := 93) G 4 dL_isRight_92 rfl rfl rfl ?_
                      refine fV_iload_n (pc' := 94) G 6 dL_isRight_93 rfl rfl rfl ?_
                      refine fV_iconst (pc' := 95) G dL_isRight_94 rfl ?_
                      refine fV_callVf (v := some (.int (i32 co))) (I' := I) (P' := P) (st' := [.int (i32 co)]) (n := 2) (k := 0) (K := 3) (As := [.int (i32 kk), .int (i32 5)]) (rest := []) (pc' := 98) G (by have h9 := mX3_word l Γ hN I P (xAll_ok ho) kk 5 (by omega) (by omega); rw [q5] at h9; exact h9) kcL_isRight_18 (by omega) rfl rfl rfl rfl (Nat.le_of_ble_eq_true rfl) (Nat.zero_le _) (Nat.zero_le _) dL_isRight_95 rfl rfl ?_
                      refine fV_aload_n (pc' := 99) G 4 dL_isRight_98 rfl rfl rfl ?_
                      refine fV_iload_n (pc' := 100) G 6 dL_isRight_99 rfl rfl rfl ?_
                      refine fV_bipush (n := 7) (pc' := 102) G dL_isRight_100 rfl rfl ?_
                      refine fV_callVf (v := some (.int (i32 le))) (I' := I) (P' := P) (st' := [.int (i32 le), .int (i32 co)]) (n := 2) (k := 0) (K := 3) (As := [.int (i32 kk), .int (i32 7)]) (rest := [.int (i32 co)]) (pc' := 105) G (by have h9 := mX3_word l Γ hN I P (xAll_ok ho) kk 7 (by omega) (by omega); rw [q7] at h9; exact h9) kcL_isRight_18 (by omega) rfl rfl rfl rfl (Nat.le_of_ble_eq_true rfl) (Nat.zero_le _) (Nat.zero_le _) dL_isRight_102 rfl rfl ?_
                      refine fV_iadd (pc' := 106) G dL_isRight_105 rfl ?_
                      refine fV_bipush (n := 40) (pc' := 108) G dL_isRight_106 rfl rfl ?_
                      refine fV_icmp_gt (tgt := 167) (pc' := 111) G dL_isRight_108 (by decide) rfl (by omega) (by decide) (fun c158 => ?_) (fun c158 => ?_)
                      · exfalso
                        omega
                      · refine fV_aload_n (pc' := 112) G 4 dL_isRight_111 rfl rfl rfl ?_
                        refine fV_iload_n (pc' := 113) G 6 dL_isRight_112 rfl rfl rfl ?_
                        refine fV_iload (pc' := 115) G 1 dL_isRight_113 rfl rfl ?_
                        refine fV_iconst (pc' := 116) G dL_isRight_115 rfl ?_
                        refine fV_callVf (v := some (.int (i32 la))) (I' := I) (P' := P) (st' := [.int (i32 la)]) (n := 3) (k := 0) (K := 3) (As := [.int (i32 kk), .int (i32 fi), .int (i32 0)]) (rest := []) (pc' := 119) G (by have h9 := mX3_where l Γ hN I P (xAll_ok ho) kk fi 0 (by omega) (by omega) (by omega); rw [w1] at h9; exact h9) kcL_isRight_63 (by omega) rfl rfl rfl rfl (Nat.le_of_ble_eq_true rfl) (Nat.zero_le _) (Nat.zero_le _) dL_isRight_116 rfl rfl ?_
                        refine fV_iload (pc' := 121) G 3 dL_isRight_119 rfl rfl ?_
                        refine fV_icmp_ne (tgt := 167) (pc' := 124) G dL_isRight_121 (by decide) rfl (by omega) (by omega) (fun c159 => ?_) (fun c159 => ?_)
                        · exfalso
                          omega
                        · refine fV_aload_n (pc' := 125) G 4 dL_isRight_124 rfl rfl rfl ?_
                          refine fV_iload_n (pc' := 126) G 6 dL_isRight_125 rfl rfl rfl ?_
                          refine fV_iload (pc' := 128) G 1 dL_isRight_126 rfl rfl ?_
                          refine fV_iconst (pc' := 129) G dL_isRight_128 rfl ?_
                          refine fV_callVf (v := some (.int (i32 co))) (I' := I) (P' := P) (st' := [.int (i32 co)]) (n := 3) (k := 0) (K := 3) (As := [.int (i32 kk), .int (i32 fi), .int (i32 1)]) (rest := []) (pc' := 132) G (by have h9 := mX3_where l Γ hN I P (xAll_ok ho) kk fi 1 (by omega) (by omega) (by omega); rw [w2] at h9; exact h9) kcL_isRight_63 (by omega) rfl rfl rfl rfl (Nat.le_of_ble_eq_true rfl) (Nat.zero_le _) (Nat.zero_le _) dL_isRight_129 rfl rfl ?_
                          refine fV_aload_n (pc' := 133) G 4 dL_isRight_132 rfl rfl rfl ?_
                          refine fV_iload_n (pc' := 134) G 6 dL_isRight_133 rfl rfl rfl ?_
                          refine fV_iconst (pc' := 135) G dL_isRight_134 rfl ?_
                          refine fV_callVf (v := some (.int (i32 co))) (I' := I) (P' := P) (st' := [.int (i32 co), .int (i32 co)]) (n := 2) (k := 0) (K := 3) (As := [.int (i32 kk), .int (i32 5)]) (rest := [.int (i32 co)]) (pc' := 138) G (by have h9 := mX3_word l Γ hN I P (xAll_ok ho) kk 5 (by omega) (by omega); rw [q5] at h9; exact h9) kcL_isRight_18 (by omega) rfl rfl rfl rfl (Nat.le_of_ble_eq_true rfl) (Nat.zero_le _) (Nat.zero_le _) dL_isRight_135 rfl rfl ?_
                          refine fV_icmp_ne (tgt := 167) (pc' := 141) G dL_isRight_138 (by decide) rfl (by omega) (by omega) (fun c160 => ?_) (fun c160 => ?_)
                          · exfalso
                            omega
                          · refine fV_aload_n (pc' := 142) G 4 dL_isRight_141 rfl rfl rfl ?_
                            refine fV_iload_n (pc' := 143) G 6 dL_isRight_142 rfl rfl rfl ?_
                            refine fV_iload (pc' := 145) G 0 dL_isRight_143 rfl rfl ?_
                            refine fV_iconst (pc' := 146) G dL_isRight_145 rfl ?_
                            refine fV_iadd (pc' := 147) G dL_isRight_146 rfl ?_
                            refine fV_iconst (pc' := 148) G dL_isRight_147 rfl ?_
                            refine fV_callVf (v := some (.int (i32 (-19)))) (I' := I) (P' := P) (st' := [.int (i32 (-19))]) (n := 3) (k := 0) (K := 3) (As := [.int (i32 kk), .int (i32 ((g - 1) + 1)), .int (i32 0)]) (rest := []) (pc' := 151) G (by have h9 := mX3_where l Γ hN I P (xAll_ok ho) kk ((g - 1) + 1) 0 (by omega) (by omega) (by omega); rw [w3] at h9; exact h9) kcL_isRight_63 (by omega) rfl rfl rfl rfl (Nat.le_of_ble_eq_true rfl) (Nat.zero_le _) (Nat.zero_le _) dL_isRight_148 rfl rfl ?_
                            refine fV_bipush (n := -19) (pc' := 153) G dL_isRight_151 rfl rfl ?_
                            refine fV_icmp_ne (tgt := 167) (pc' := 156) G dL_isRight_153 (by decide) rfl (by decide) (by decide) (fun c161 => ?_) (fun c161 => ?_)
                            · exfalso
                              omega
                            · refine fV_aload_n (pc' := 157) G 4 dL_isRight_156 rfl rfl rfl ?_
                              refine fV_iload_n (pc' := 158) G 6 dL_isRight_157 rfl rfl rfl ?_
                              refine fV_iload (pc' := 160) G 0 dL_isRight_158 rfl rfl ?_
                              refine fV_iconst (pc' := 161) G dL_isRight_160 rfl ?_
                              refine fV_callVf (st' := [.int (i32 (qXWhere I P kk (g - 1) 0))]) (n := 3) (k := 0) (K := 3) (As := [.int (i32 kk), .int (i32 (g - 1)), .int (i32 0)]) (rest := []) (pc' := 164) G (mX3_where l Γ hN I P (xAll_ok ho) kk (g - 1) 0 (by omega) (by omega) (by omega)) kcL_isRight_63 (by omega) rfl rfl rfl rfl (Nat.le_of_ble_eq_true rfl) (Nat.zero_le _) (Nat.zero_le _) dL_isRight_161 rfl rfl ?_
                              refine fV_if_ge (tgt := 169) (pc' := 167) G dL_isRight_164 (by decide) rfl (by omega) (fun c162 => ?_) (fun c162 => ?_)
                              · refine fV_iload (pc' := 171) G 3 dL_isRight_169 rfl rfl ?_
                                refine fV_if_ge (tgt := 194) (pc' := 174) G dL_isRight_171 (by decide) rfl (by omega) (fun c163 => ?_) (fun c163 => ?_)
                                · refine fV_iload (pc' := 196) G 1 dL_isRight_194 rfl rfl ?_
                                  refine fV_if_le (tgt := 216) (pc' := 199) G dL_isRight_196 (by decide) rfl (by omega) (fun c164 => ?_) (fun c164 => ?_)
                                  · refine fV_iload (pc' := 218) G 3 dL_isRight_216 rfl rfl ?_
                                    refine fV_if_lt (tgt := 279) (pc' := 221) G dL_isRight_218 (by decide) rfl (by omega) (fun c165 => ?_) (fun c165 => ?_)
                                    · exfalso
                                      omega
                                    · refine fV_aload_n (pc' := 222) G 4 dL_isRight_221 rfl rfl rfl ?_
                                      refine fV_iload_n (pc' := 223) G 6 dL_isRight_222 rfl rfl rfl ?_
                                      refine fV_iconst (pc' := 224) G dL_isRight_223 rfl ?_
                                      refine fV_callVf (v := some (.int (i32 way))) (I' := I) (P' := P) (st' := [.int (i32 way)]) (n := 2) (k := 0) (K := 3) (As := [.int (i32 kk), .int (i32 3)]) (rest := []) (pc' := 227) G (by have h9 := mX3_word l Γ hN I P (xAll_ok ho) kk 3 (by omega) (by omega); rw [q3] at h9; exact h9) kcL_isRight_18 (by omega) rfl rfl rfl rfl (Nat.le_of_ble_eq_true rfl) (Nat.zero_le _) (Nat.zero_le _) dL_isRight_224 rfl rfl ?_
                                      refine fV_if_ne (tgt := 253) (pc' := 230) G dL_isRight_227 (by decide) rfl (by omega) (fun c166 => ?_) (fun c166 => ?_)
                                      · refine fV_aload_n (pc' := 254) G 4 dL_isRight_253 rfl rfl rfl ?_
                                        refine fV_iload (pc' := 256) G 0 dL_isRight_254 rfl rfl ?_
                                        refine fV_callVf (st' := [.int (qXOnScreen I P (g - 1))]) (n := 1) (k := 0) (K := 3) (As := [.int (i32 (g - 1))]) (rest := []) (pc' := 259) G (mX3_onScreen l Γ hN I P (xAll_ok ho) (g - 1) (by omega)) kcL_isRight_66 (by omega) rfl rfl rfl rfl (Nat.le_of_ble_eq_true rfl) (Nat.zero_le _) (Nat.zero_le _) dL_isRight_256 rfl rfl ?_
                                        refine fV_iload_n (pc' := 260) G 6 dL_isRight_259 rfl rfl rfl ?_
                                        refine fV_ishrr (t := ((qXOnScreen I P (g - 1)) >>> (i32 kk &&& 31)).toInt) (pc' := 261) G rfl dL_isRight_260 rfl ?_
                                        refine fV_iconst (pc' := 262) G dL_isRight_261 rfl ?_
                                        refine fV_iandr (t := (i32 (((qXOnScreen I P (g - 1)) >>> (i32 kk &&& 31)).toInt) &&& i32 1).toInt) (pc' := 263) G rfl dL_isRight_262 rfl ?_
                                        refine fV_iconst (pc' := 264) G dL_isRight_263 rfl ?_
                                        refine fV_icmp_ne (tgt := 277) (pc' := 267) G dL_isRight_264 (by decide) rfl (by omega) (by decide) (fun c167 => ?_) (fun c167 => ?_)
                                        · exfalso
                                          omega
                                        · refine fV_aload_n (pc' := 268) G 4 dL_isRight_267 rfl rfl rfl ?_
                                          refine fV_iload (pc' := 270) G 1 dL_isRight_268 rfl rfl ?_
                                          refine fV_callVf (st' := [.int (i32 (qXFilled I P fi))]) (n := 1) (k := 0) (K := 3) (As := [.int (i32 fi)]) (rest := []) (pc' := 273) G (mX3_filled l Γ hN I P ho fi (by omega)) kcL_isRight_69 (by omega) rfl rfl rfl rfl (Nat.le_of_ble_eq_true rfl) (Nat.zero_le _) (Nat.zero_le _) dL_isRight_270 rfl rfl ?_
                                          refine fV_iconst (pc' := 274) G dL_isRight_273 rfl ?_
                                          refine fV_icmp_ge (tgt := 279) (pc' := 277) G dL_isRight_274 (by decide) rfl (by omega) (by decide) (fun c168 => ?_) (fun c168 => ?_)
                                          · refine fV_lv (lv' := [(0, .ref (Γ.1 0)), (1, .int (i32 (pu + 1))), (2, .int (i32 pr)), (3, .int (i32 kk))]) [4, 2, 5, 6] rfl ?_
                                            exact tail _ (by rw [show (sSum (fun i => if I (P 2 i) 6 = 1 then 1 else 0) (kk + 1)) = _ from sSum_s (by omega), ← hpu, if_pos h6])
                                          · exfalso
                                            omega
                                      · refine fV_iload (pc' := 232) G 0 dL_isRight_230 rfl rfl ?_
                                        refine fV_iload (pc' := 234) G 1 dL_isRight_232 rfl rfl ?_
                                        refine fV_aload_n (pc' := 235) G 4 dL_isRight_234 rfl rfl rfl ?_
                                        refine fV_iload_n (pc' := 236) G 6 dL_isRight_235 rfl rfl rfl ?_
                                        refine fV_iconst (pc' := 237) G dL_isRight_236 rfl ?_
                                        refine fV_callVf (v := some (.int (i32 sp))) (I' := I) (P' := P) (st' := [.int (i32 sp), .int (i32 fi), .int (i32 (g - 1))]) (n := 2) (k := 0) (K := 3) (As := [.int (i32 kk), .int (i32 1)]) (rest := [.int (i32 fi), .int (i32 (g - 1))]) (pc' := 240) G (by have h9 := mX3_word l Γ hN I P (xAll_ok ho) kk 1 (by omega) (by omega); rw [q1] at h9; exact h9) kcL_isRight_18 (by omega) rfl rfl rfl rfl (Nat.le_of_ble_eq_true rfl) (Nat.zero_le _) (Nat.zero_le _) dL_isRight_237 rfl rfl ?_
                                        refine fV_iadd (pc' := 241) G dL_isRight_240 rfl ?_
                                        refine fV_aload_n (pc' := 242) G 4 dL_isRight_241 rfl rfl rfl ?_
                                        refine fV_iload_n (pc' := 243) G 6 dL_isRight_242 rfl rfl rfl ?_
                                        refine fV_iconst (pc' := 244) G dL_isRight_243 rfl ?_
                                        refine fV_callVf (v := some (.int (i32 he))) (I' := I) (P' := P) (st' := [.int (i32 he), .int (i32 (fi + sp)), .int (i32 (g - 1))]) (n := 2) (k := 0) (K := 3) (As := [.int (i32 kk), .int (i32 2)]) (rest := [.int (i32 (fi + sp)), .int (i32 (g - 1))]) (pc' := 247) G (by have h9 := mX3_word l Γ hN I P (xAll_ok ho) kk 2 (by omega) (by omega); rw [q2] at h9; exact h9) kcL_isRight_18 (by omega) rfl rfl rfl rfl (Nat.le_of_ble_eq_true rfl) (Nat.zero_le _) (Nat.zero_le _) dL_isRight_244 rfl rfl ?_
                                        refine fV_iadd (pc' := 248) G dL_isRight_247 rfl ?_
                                        refine fV_iconst (pc' := 249) G dL_isRight_248 rfl ?_
                                        refine fV_isub (pc' := 250) G dL_isRight_249 rfl ?_
                                        refine fV_icmp_gt (tgt := 277) (pc' := 253) G dL_isRight_250 (by decide) rfl (by omega) (by omega) (fun c167 => ?_) (fun c167 => ?_)
                                        · exfalso
                                          omega
                                        · refine fV_aload_n (pc' := 254) G 4 dL_isRight_253 rfl rfl rfl ?_
                                          refine fV_iload (pc' := 256) G 0 dL_isRight_254 rfl rfl ?_
                                          refine fV_callVf (st' := [.int (qXOnScreen I P (g - 1))]) (n := 1) (k := 0) (K := 3) (As := [.int (i32 (g - 1))]) (rest := []) (pc' := 259) G (mX3_onScreen l Γ hN I P (xAll_ok ho) (g - 1) (by omega)) kcL_isRight_66 (by omega) rfl rfl rfl rfl (Nat.le_of_ble_eq_true rfl) (Nat.zero_le _) (Nat.zero_le _) dL_isRight_256 rfl rfl ?_
                                          refine fV_iload_n (pc' := 260) G 6 dL_isRight_259 rfl rfl rfl ?_
                                          refine fV_ishrr (t := ((qXOnScreen I P (g - 1)) >>> (i32 kk &&& 31)).toInt) (pc' := 261) G rfl dL_isRight_260 rfl ?_
                                          refine fV_iconst (pc' := 262) G dL_isRight_261 rfl ?_
                                          refine fV_iandr (t := (i32 (((qXOnScreen I P (g - 1)) >>> (i32 kk &&& 31)).toInt) &&& i32 1).toInt) (pc' := 263) G rfl dL_isRight_262 rfl ?_
                                          refine fV_iconst (pc' := 264) G dL_isRight_263 rfl ?_
                                          refine fV_icmp_ne (tgt := 277) (pc' := 267) G dL_isRight_264 (by decide) rfl (by omega) (by decide) (fun c168 => ?_) (fun c168 => ?_)
                                          · exfalso
                                            omega
                                          · refine fV_aload_n (pc' := 268) G 4 dL_isRight_267 rfl rfl rfl ?_
                                            refine fV_iload (pc' := 270) G 1 dL_isRight_268 rfl rfl ?_
                                            refine fV_callVf (st' := [.int (i32 (qXFilled I P fi))]) (n := 1) (k := 0) (K := 3) (As := [.int (i32 fi)]) (rest := []) (pc' := 273) G (mX3_filled l Γ hN I P ho fi (by omega)) kcL_isRight_69 (by omega) rfl rfl rfl rfl (Nat.le_of_ble_eq_true rfl) (Nat.zero_le _) (Nat.zero_le _) dL_isRight_270 rfl rfl ?_
                                            refine fV_iconst (pc' := 274) G dL_isRight_273 rfl ?_
                                            refine fV_icmp_ge (tgt := 279) (pc' := 277) G dL_isRight_274 (by decide) rfl (by omega) (by decide) (fun c169 => ?_) (fun c169 => ?_)
                                            · refine fV_lv (lv' := [(0, .ref (Γ.1 0)), (1, .int (i32 (pu + 1))), (2, .int (i32 pr)), (3, .int (i32 kk))]) [4, 2, 5, 6] rfl ?_
                                              exact tail _ (by rw [show (sSum (fun i => if I (P 2 i) 6 = 1 then 1 else 0) (kk + 1)) = _ from sSum_s (by omega), ← hpu, if_pos h6])
                                            · exfalso
                                              omega
                                  · refine fV_aload_n (pc' := 200) G 4 dL_isRight_199 rfl rfl rfl ?_
                                    refine fV_iload_n (pc' := 201) G 6 dL_isRight_200 rfl rfl rfl ?_
                                    refine fV_iload (pc' := 203) G 1 dL_isRight_201 rfl rfl ?_
                                    refine fV_iconst (pc' := 204) G dL_isRight_203 rfl ?_
                                    refine fV_isub (pc' := 205) G dL_isRight_204 rfl ?_
                                    refine fV_iconst (pc' := 206) G dL_isRight_205 rfl ?_
                                    refine fV_callVf (v := some (.int (i32 (-19)))) (I' := I) (P' := P) (st' := [.int (i32 (-19))]) (n := 3) (k := 0) (K := 3) (As := [.int (i32 kk), .int (i32 (fi - 1)), .int (i32 0)]) (rest := []) (pc' := 209) G (by have h9 := mX3_where l Γ hN I P (xAll_ok ho) kk (fi - 1) 0 (by omega) (by omega) (by omega); rw [w5 (by omega)] at h9; exact h9) kcL_isRight_63 (by omega) rfl rfl rfl rfl (Nat.le_of_ble_eq_true rfl) (Nat.zero_le _) (Nat.zero_le _) dL_isRight_206 rfl rfl ?_
                                    refine fV_bipush (n := -19) (pc' := 211) G dL_isRight_209 rfl rfl ?_
                                    refine fV_icmp_eq (tgt := 216) (pc' := 214) G dL_isRight_211 (by decide) rfl (by decide) (by decide) (fun c165 => ?_) (fun c165 => ?_)
                                    · refine fV_iload (pc' := 218) G 3 dL_isRight_216 rfl rfl ?_
                                      refine fV_if_lt (tgt := 279) (pc' := 221) G dL_isRight_218 (by decide) rfl (by omega) (fun c166 => ?_) (fun c166 => ?_)
                                      · exfalso
                                        omega
                                      · refine fV_aload_n (pc' := 222) G 4 dL_isRight_221 rfl rfl rfl ?_
                                        refine fV_iload_n (pc' := 223) G 6 dL_isRight_222 rfl rfl rfl ?_
                                        refine fV_iconst (pc' := 224) G dL_isRight_223 rfl ?_
                                        refine fV_callVf (v := some (.int (i32 way))) (I' := I) (P' := P) (st' := [.int (i32 way)]) (n := 2) (k := 0) (K := 3) (As := [.int (i32 kk), .int (i32 3)]) (rest := []) (pc' := 227) G (by have h9 := mX3_word l Γ hN I P (xAll_ok ho) kk 3 (by omega) (by omega); rw [q3] at h9; exact h9) kcL_isRight_18 (by omega) rfl rfl rfl rfl (Nat.le_of_ble_eq_true rfl) (Nat.zero_le _) (Nat.zero_le _) dL_isRight_224 rfl rfl ?_
                                        refine fV_if_ne (tgt := 253) (pc' := 230) G dL_isRight_227 (by decide) rfl (by omega) (fun c167 => ?_) (fun c167 => ?_)
                                        · refine fV_aload_n (pc' := 254) G 4 dL_isRight_253 rfl rfl rfl ?_
                                          refine fV_iload (pc' := 256) G 0 dL_isRight_254 rfl rfl ?_
                                          refine fV_callVf (st' := [.int (qXOnScreen I P (g - 1))]) (n := 1) (k := 0) (K := 3) (As := [.int (i32 (g - 1))]) (rest := []) (pc' := 259) G (mX3_onScreen l Γ hN I P (xAll_ok ho) (g - 1) (by omega)) kcL_isRight_66 (by omega) rfl rfl rfl rfl (Nat.le_of_ble_eq_true rfl) (Nat.zero_le _) (Nat.zero_le _) dL_isRight_256 rfl rfl ?_
                                          refine fV_iload_n (pc' := 260) G 6 dL_isRight_259 rfl rfl rfl ?_
                                          refine fV_ishrr (t := ((qXOnScreen I P (g - 1)) >>> (i32 kk &&& 31)).toInt) (pc' := 261) G rfl dL_isRight_260 rfl ?_
                                          refine fV_iconst (pc' := 262) G dL_isRight_261 rfl ?_
                                          refine fV_iandr (t := (i32 (((qXOnScreen I P (g - 1)) >>> (i32 kk &&& 31)).toInt) &&& i32 1).toInt) (pc' := 263) G rfl dL_isRight_262 rfl ?_
                                          refine fV_iconst (pc' := 264) G dL_isRight_263 rfl ?_
                                          refine fV_icmp_ne (tgt := 277) (pc' := 267) G dL_isRight_264 (by decide) rfl (by omega) (by decide) (fun c168 => ?_) (fun c168 => ?_)
                                          · exfalso
                                            omega
                                          · refine fV_aload_n (pc' := 268) G 4 dL_isRight_267 rfl rfl rfl ?_
                                            refine fV_iload (pc' := 270) G 1 dL_isRight_268 rfl rfl ?_
                                            refine fV_callVf (st' := [.int (i32 (qXFilled I P fi))]) (n := 1) (k := 0) (K := 3) (As := [.int (i32 fi)]) (rest := []) (pc' := 273) G (mX3_filled l Γ hN I P ho fi (by omega)) kcL_isRight_69 (by omega) rfl rfl rfl rfl (Nat.le_of_ble_eq_true rfl) (Nat.zero_le _) (Nat.zero_le _) dL_isRight_270 rfl rfl ?_
                                            refine fV_iconst (pc' := 274) G dL_isRight_273 rfl ?_
                                            refine fV_icmp_ge (tgt := 279) (pc' := 277) G dL_isRight_274 (by decide) rfl (by omega) (by decide) (fun c169 => ?_) (fun c169 => ?_)
                                            · refine fV_lv (lv' := [(0, .ref (Γ.1 0)), (1, .int (i32 (pu + 1))), (2, .int (i32 pr)), (3, .int (i32 kk))]) [4, 2, 5, 6] rfl ?_
                                              exact tail _ (by rw [show (sSum (fun i => if I (P 2 i) 6 = 1 then 1 else 0) (kk + 1)) = _ from sSum_s (by omega), ← hpu, if_pos h6])
                                            · exfalso
                                              omega
                                        · refine fV_iload (pc' := 232) G 0 dL_isRight_230 rfl rfl ?_
                                          refine fV_iload (pc' := 234) G 1 dL_isRight_232 rfl rfl ?_
                                          refine fV_aload_n (pc' := 235) G 4 dL_isRight_234 rfl rfl rfl ?_
                                          refine fV_iload_n (pc' := 236) G 6 dL_isRight_235 rfl rfl rfl ?_
                                          refine fV_iconst (pc' := 237) G dL_isRight_236 rfl ?_
                                          refine fV_callVf (v := some (.int (i32 sp))) (I' := I) (P' := P) (st' := [.int (i32 sp), .int (i32 fi), .int (i32 (g - 1))]) (n := 2) (k := 0) (K := 3) (As := [.int (i32 kk), .int (i32 1)]) (rest := [.int (i32 fi), .int (i32 (g - 1))]) (pc' := 240) G (by have h9 := mX3_word l Γ hN I P (xAll_ok ho) kk 1 (by omega) (by omega); rw [q1] at h9; exact h9) kcL_isRight_18 (by omega) rfl rfl rfl rfl (Nat.le_of_ble_eq_true rfl) (Nat.zero_le _) (Nat.zero_le _) dL_isRight_237 rfl rfl ?_
                                          refine fV_iadd (pc' := 241) G dL_isRight_240 rfl ?_
                                          refine fV_aload_n (pc' := 242) G 4 dL_isRight_241 rfl rfl rfl ?_
                                          refine fV_iload_n (pc' := 243) G 6 dL_isRight_242 rfl rfl rfl ?_
                                          refine fV_iconst (pc' := 244) G dL_isRight_243 rfl ?_
                                          refine fV_callVf (v := some (.int (i32 he))) (I' := I) (P' := P) (st' := [.int (i32 he), .int (i32 (fi + sp)), .int (i32 (g - 1))]) (n := 2) (k := 0) (K := 3) (As := [.int (i32 kk), .int (i32 2)]) (rest := [.int (i32 (fi + sp)), .int (i32 (g - 1))]) (pc' := 247) G (by have h9 := mX3_word l Γ hN I P (xAll_ok ho) kk 2 (by omega) (by omega); rw [q2] at h9; exact h9) kcL_isRight_18 (by omega) rfl rfl rfl rfl (Nat.le_of_ble_eq_true rfl) (Nat.zero_le _) (Nat.zero_le _) dL_isRight_244 rfl rfl ?_
                                          refine fV_iadd (pc' := 248) G dL_isRight_247 rfl ?_
                                          refine fV_iconst (pc' := 249) G dL_isRight_248 rfl ?_
                                          refine fV_isub (pc' := 250) G dL_isRight_249 rfl ?_
                                          refine fV_icmp_gt (tgt := 277) (pc' := 253) G dL_isRight_250 (by decide) rfl (by omega) (by omega) (fun c168 => ?_) (fun c168 => ?_)
                                          · exfalso
                                            omega
                                          · refine fV_aload_n (pc' := 254) G 4 dL_isRight_253 rfl rfl rfl ?_
                                            refine fV_iload (pc' := 256) G 0 dL_isRight_254 rfl rfl ?_
                                            refine fV_callVf (st' := [.int (qXOnScreen I P (g - 1))]) (n := 1) (k := 0) (K := 3) (As := [.int (i32 (g - 1))]) (rest := []) (pc' := 259) G (mX3_onScreen l Γ hN I P (xAll_ok ho) (g - 1) (by omega)) kcL_isRight_66 (by omega) rfl rfl rfl rfl (Nat.le_of_ble_eq_true rfl) (Nat.zero_le _) (Nat.zero_le _) dL_isRight_256 rfl rfl ?_
                                            refine fV_iload_n (pc' := 260) G 6 dL_isRight_259 rfl rfl rfl ?_
                                            refine fV_ishrr (t := ((qXOnScreen I P (g - 1)) >>> (i32 kk &&& 31)).toInt) (pc' := 261) G rfl dL_isRight_260 rfl ?_
                                            refine fV_iconst (pc' := 262) G dL_isRight_261 rfl ?_
                                            refine fV_iandr (t := (i32 (((qXOnScreen I P (g - 1)) >>> (i32 kk &&& 31)).toInt) &&& i32 1).toInt) (pc' := 263) G rfl dL_isRight_262 rfl ?_
                                            refine fV_iconst (pc' := 264) G dL_isRight_263 rfl ?_
                                            refine fV_icmp_ne (tgt := 277) (pc' := 267) G dL_isRight_264 (by decide) rfl (by omega) (by decide) (fun c169 => ?_) (fun c169 => ?_)
                                            · exfalso
                                              omega
                                            · refine fV_aload_n (pc' := 268) G 4 dL_isRight_267 rfl rfl rfl ?_
                                              refine fV_iload (pc' := 270) G 1 dL_isRight_268 rfl rfl ?_
                                              refine fV_callVf (st' := [.int (i32 (qXFilled I P fi))]) (n := 1) (k := 0) (K := 3) (As := [.int (i32 fi)]) (rest := []) (pc' := 273) G (mX3_filled l Γ hN I P ho fi (by omega)) kcL_isRight_69 (by omega) rfl rfl rfl rfl (Nat.le_of_ble_eq_true rfl) (Nat.zero_le _) (Nat.zero_le _) dL_isRight_270 rfl rfl ?_
                                              refine fV_iconst (pc' := 274) G dL_isRight_273 rfl ?_
                                              refine fV_icmp_ge (tgt := 279) (pc' := 277) G dL_isRight_274 (by decide) rfl (by omega) (by decide) (fun c170 => ?_) (fun c170 => ?_)
                                              · refine fV_lv (lv' := [(0, .ref (Γ.1 0)), (1, .int (i32 (pu + 1))), (2, .int (i32 pr)), (3, .int (i32 kk))]) [4, 2, 5, 6] rfl ?_
                                                exact tail _ (by rw [show (sSum (fun i => if I (P 2 i) 6 = 1 then 1 else 0) (kk + 1)) = _ from sSum_s (by omega), ← hpu, if_pos h6])
                                              · exfalso
                                                omega
                                    · exfalso
                                      omega
                                · exfalso
                                  omega
                              · exfalso
                                omega
        · obtain ⟨q4, q5, q6, hfi, wo⟩ := ri_off ho (w := kk) (by omega) (by omega) h6
          obtain ⟨fi, q0⟩ : ∃ fi, qXWord I P kk 0 = fi := ⟨_, rfl⟩
          rw [q0] at hfi
          refine fV_aload_n (pc' := 16) G 0 dL_isRight_15 rfl rfl rfl ?_
          refine fV_iload_n (pc' := 17) G 3 dL_isRight_16 rfl rfl rfl ?_
          refine fV_iconst (pc' := 18) G dL_isRight_17 rfl ?_
          refine fV_callVf (v := some (.int (i32 (-19)))) (I' := I) (P' := P) (st' := [.int (i32 (-19))]) (n := 2) (k := 0) (K := 3) (As := [.int (i32 kk), .int (i32 4)]) (rest := []) (pc' := 21) G (by have h9 := mX3_word l Γ hN I P (xAll_ok ho) kk 4 (by omega) (by omega); rw [q4] at h9; exact h9) kcL_isRight_18 (by omega) rfl rfl rfl rfl (Nat.le_of_ble_eq_true rfl) (Nat.zero_le _) (Nat.zero_le _) dL_isRight_18 rfl rfl ?_
          refine fV_istore (lv' := [(4, .int (i32 (-19))), (0, .ref (Γ.1 0)), (1, .int (i32 pu)), (2, .int (i32 pr)), (3, .int (i32 kk))]) (pc' := 23) G dL_isRight_21 (by decide) rfl rfl ?_
          refine fV_iload_n (pc' := 24) G 2 dL_isRight_23 rfl rfl rfl ?_
          refine fV_iload (pc' := 26) G 0 dL_isRight_24 rfl rfl ?_
          refine fV_if_lt (tgt := 33) (pc' := 29) G dL_isRight_26 (by decide) rfl (by omega) (fun c163 => ?_) (fun c163 => ?_)
          · refine fV_iconst (pc' := 34) G dL_isRight_33 rfl ?_
            refine fV_iadd (pc' := 35) G dL_isRight_34 rfl ?_
            refine fV_istore_n (lv' := [(1, .int (i32 (pu + 0))), (4, .int (i32 (-19))), (0, .ref (Γ.1 0)), (2, .int (i32 pr)), (3, .int (i32 kk))]) (pc' := 36) G dL_isRight_35 rfl (by decide) rfl rfl ?_
            refine fV_aload_n (pc' := 37) G 2 dL_isRight_36 rfl rfl rfl ?_
            refine fV_iload_n (pc' := 38) G 4 dL_isRight_37 rfl rfl rfl ?_
            refine fV_iconst (pc' := 39) G dL_isRight_38 rfl ?_
            refine fV_callVf (v := some (.int (i32 fi))) (I' := I) (P' := P) (st' := [.int (i32 fi)]) (n := 2) (k := 0) (K := 3) (As := [.int (i32 kk), .int (i32 0)]) (rest := []) (pc' := 42) G (by have h9 := mX3_word l Γ hN I P (xAll_ok ho) kk 0 (by omega) (by omega); rw [q0] at h9; exact h9) kcL_isRight_18 (by omega) rfl rfl rfl rfl (Nat.le_of_ble_eq_true rfl) (Nat.zero_le _) (Nat.zero_le _) dL_isRight_39 rfl rfl ?_
            refine fV_istore (lv' := [(5, .int (i32 fi)), (1, .int (i32 (pu + 0))), (4, .int (i32 (-19))), (0, .ref (Γ.1 0)), (2, .int (i32 pr)), (3, .int (i32 kk))]) (pc' := 44) G dL_isRight_42 (by decide) rfl rfl ?_
            refine fV_aload_n (pc' := 45) G 3 dL_isRight_44 rfl rfl rfl ?_
            refine fV_iload_n (pc' := 46) G 5 dL_isRight_45 rfl rfl rfl ?_
            refine fV_bipush (n := 6) (pc' := 48) G dL_isRight_46 rfl rfl ?_
            refine fV_callVf (v := some (.int (i32 (-19)))) (I' := I) (P' := P) (st' := [.int (i32 (-19))]) (n := 2) (k := 0) (K := 3) (As := [.int (i32 kk), .int (i32 6)]) (rest := []) (pc' := 51) G (by have h9 := mX3_word l Γ hN I P (xAll_ok ho) kk 6 (by omega) (by omega); rw [q6] at h9; exact h9) kcL_isRight_18 (by omega) rfl rfl rfl rfl (Nat.le_of_ble_eq_true rfl) (Nat.zero_le _) (Nat.zero_le _) dL_isRight_48 rfl rfl ?_
            refine fV_istore (lv' := [(6, .int (i32 (-19))), (5, .int (i32 fi)), (1, .int (i32 (pu + 0))), (4, .int (i32 (-19))), (0, .ref (Γ.1 0)), (2, .int (i32 pr)), (3, .int (i32 kk))]) (pc' := 53) G dL_isRight_51 (by decide) rfl rfl ?_
            refine fV_iload (pc' := 55) G 3 dL_isRight_53 rfl rfl ?_
            refine fV_if_lt (tgt := 62) (pc' := 58) G dL_isRight_55 (by decide) rfl (by omega) (fun c164 => ?_) (fun c164 => ?_)
            · refine fV_iconst (pc' := 63) G dL_isRight_62 rfl ?_
              refine fV_aload_n (pc' := 64) G 4 dL_isRight_63 rfl rfl rfl ?_
              refine fV_iload_n (pc' := 65) G 6 dL_isRight_64 rfl rfl rfl ?_
              refine fV_iconst (pc' := 66) G dL_isRight_65 rfl ?_
              refine fV_callVf (v := some (.int (i32 (-19)))) (I' := I) (P' := P) (st' := [.int (i32 (-19)), .int (i32 0)]) (n := 2) (k := 0) (K := 3) (As := [.int (i32 kk), .int (i32 5)]) (rest := [.int (i32 0)]) (pc' := 69) G (by have h9 := mX3_word l Γ hN I P (xAll_ok ho) kk 5 (by omega) (by omega); rw [q5] at h9; exact h9) kcL_isRight_18 (by omega) rfl rfl rfl rfl (Nat.le_of_ble_eq_true rfl) (Nat.zero_le _) (Nat.zero_le _) dL_isRight_66 rfl rfl ?_
              refine fV_if_lt (tgt := 76) (pc' := 72) G dL_isRight_69 (by decide) rfl (by omega) (fun c165 => ?_) (fun c165 => ?_)
              · refine fV_iconst (pc' := 77) G dL_isRight_76 rfl ?_
                refine fV_icmp_ne (tgt := 167) (pc' := 80) G dL_isRight_77 (by decide) rfl (by decide) (by decide) (fun c166 => ?_) (fun c166 => ?_)
                · exfalso
                  omega
                · refine fV_iload (pc' := 82) G 3 dL_isRight_80 rfl rfl ?_
                  refine fV_if_lt (tgt := 169) (pc' := 85) G dL_isRight_82 (by decide) rfl (by omega) (fun c167 => ?_) (fun c167 => ?_)
                  · refine fV_iload (pc' := 171) G 3 dL_isRight_169 rfl rfl ?_
                    refine fV_if_ge (tgt := 194) (pc' := 174) G dL_isRight_171 (by decide) rfl (by omega) (fun c168 => ?_) (fun c168 => ?_)
                    · exfalso
                      omega
                    · refine fV_iload (pc' := 176) G 0 dL_isRight_174 rfl rfl ?_
                      refine fV_bipush (n := -19) (pc' := 178) G dL_isRight_176 rfl rfl ?_
                      refine fV_icmp_ne (tgt := 214) (pc' := 181) G dL_isRight_178 (by decide) rfl (by decide) (by decide) (fun c169 => ?_) (fun c169 => ?_)
                      · exfalso
                        omega
                      · refine fV_aload_n (pc' := 182) G 4 dL_isRight_181 rfl rfl rfl ?_
                        refine fV_iload_n (pc' := 183) G 6 dL_isRight_182 rfl rfl rfl ?_
                        refine fV_iload (pc' := 185) G 1 dL_isRight_183 rfl rfl ?_
                        refine fV_iconst (pc' := 186) G dL_isRight_185 rfl ?_
                        refine fV_callVf (v := some (.int (i32 (-19)))) (I' := I) (P' := P) (st' := [.int (i32 (-19))]) (n := 3) (k := 0) (K := 3) (As := [.int (i32 kk), .int (i32 fi), .int (i32 0)]) (rest := []) (pc' := 189) G (by have h9 := mX3_where l Γ hN I P (xAll_ok ho) kk fi 0 (by omega) (by omega) (by omega); rw [wo fi (by omega) (by omega)] at h9; exact h9) kcL_isRight_63 (by omega) rfl rfl rfl rfl (Nat.le_of_ble_eq_true rfl) (Nat.zero_le _) (Nat.zero_le _) dL_isRight_186 rfl rfl ?_
                        refine fV_bipush (n := -19) (pc' := 191) G dL_isRight_189 rfl rfl ?_
                        refine fV_icmp_ne (tgt := 214) (pc' := 194) G dL_isRight_191 (by decide) rfl (by decide) (by decide) (fun c170 => ?_) (fun c170 => ?_)
                        · exfalso
                          omega
                        · refine fV_iload (pc' := 196) G 1 dL_isRight_194 rfl rfl ?_
                          refine fV_if_le (tgt := 216) (pc' := 199) G dL_isRight_196 (by decide) rfl (by omega) (fun c171 => ?_) (fun c171 => ?_)
                          · refine fV_iload (pc' := 218) G 3 dL_isRight_216 rfl rfl ?_
                            refine fV_if_lt (tgt := 279) (pc' := 221) G dL_isRight_218 (by decide) rfl (by omega) (fun c172 => ?_) (fun c172 => ?_)
                            · refine fV_lv (lv' := [(0, .ref (Γ.1 0)), (1, .int (i32 (pu + 0))), (2, .int (i32 pr)), (3, .int (i32 kk))]) [4, 2, 5, 6] rfl ?_
                              exact tail _ (by rw [show (sSum (fun i => if I (P 2 i) 6 = 1 then 1 else 0) (kk + 1)) = _ from sSum_s (by omega), ← hpu, if_neg h6])
                            · exfalso
                              omega
                          · refine fV_aload_n (pc' := 200) G 4 dL_isRight_199 rfl rfl rfl ?_
                            refine fV_iload_n (pc' := 201) G 6 dL_isRight_200 rfl rfl rfl ?_
                            refine fV_iload (pc' := 203) G 1 dL_isRight_201 rfl rfl ?_
                            refine fV_iconst (pc' := 204) G dL_isRight_203 rfl ?_
                            refine fV_isub (pc' := 205) G dL_isRight_204 rfl ?_
                            refine fV_iconst (pc' := 206) G dL_isRight_205 rfl ?_
                            refine fV_callVf (v := some (.int (i32 (-19)))) (I' := I) (P' := P) (st' := [.int (i32 (-19))]) (n := 3) (k := 0) (K := 3) (As := [.int (i32 kk), .int (i32 (fi - 1)), .int (i32 0)]) (rest := []) (pc' := 209) G (by have h9 := mX3_where l Γ hN I P (xAll_ok ho) kk (fi - 1) 0 (by omega) (by omega) (by omega); rw [wo (fi - 1) (by omega) (by omega)] at h9; exact h9) kcL_isRight_63 (by omega) rfl rfl rfl rfl (Nat.le_of_ble_eq_true rfl) (Nat.zero_le _) (Nat.zero_le _) dL_isRight_206 rfl rfl ?_
                            refine fV_bipush (n := -19) (pc' := 211) G dL_isRight_209 rfl rfl ?_
                            refine fV_icmp_eq (tgt := 216) (pc' := 214) G dL_isRight_211 (by decide) rfl (by decide) (by decide) (fun c172 => ?_) (fun c172 => ?_)
                            · refine fV_iload (pc' := 218) G 3 dL_isRight_216 rfl rfl ?_
                              refine fV_if_lt (tgt := 279) (pc' := 221) G dL_isRight_218 (by decide) rfl (by omega) (fun c173 => ?_) (fun c173 => ?_)
                              · refine fV_lv (lv' := [(0, .ref (Γ.1 0)), (1, .int (i32 (pu + 0))), (2, .int (i32 pr)), (3, .int (i32 kk))]) [4, 2, 5, 6] rfl ?_
                                exact tail _ (by rw [show (sSum (fun i => if I (P 2 i) 6 = 1 then 1 else 0) (kk + 1)) = _ from sSum_s (by omega), ← hpu, if_neg h6])
                              · exfalso
                                omega
                            · exfalso
                              omega
                  · exfalso
                    omega
              · exfalso
                omega
            · exfalso
              omega
          · exfalso
            omega
  refine fV_lv (lv' := [(0, .ref (Γ.1 0)), (1, .int (i32 0)), (2, .int (i32 0)), (3, .int (i32 0))]) [3, 2, 1, 0] rfl ?_
  exact l1 _ 0 0 0 (by omega) rfl rfl (by omega) (by omega) rfl
