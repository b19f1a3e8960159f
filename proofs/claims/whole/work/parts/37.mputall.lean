/-! CONTRACTS 16: putAll of the reference (rows laid by wip/whole/gen/con16.py) -/
set_option maxHeartbeats 4000000 in
set_option maxRecDepth 100000 in
theorem mX4_putAll (l : Launch) (Γ : fG) {N : Nat} (hN : 220 ≤ N) (I : fM) (P : fN) (ho : mOk I) (o : Int → Int) (hO : sOrd (fun w => I 215 (13 + 19 * w + 6)) (fun w => I 215 (13 + 19 * w + 0)) (I 215 0) o) : fMet l yX4_putAll wsX4_putAll rmX4_putAll Γ N [.ref (Γ.1 214)] I P (fun v J Q => v = some (.int (i32 (mCnt (J 215)))) ∧ J 215 = rPutN (rOffN (I 215) (I 215 0).toNat) o (I 215 0).toNat ∧ (∀ a : Nat, a ≠ 215 → a ≠ 219 → J a = mAct I a) ∧ Q = P) := by
  refine fMet_of (own := RX4) (cc := cX4_putAll) (maxL := 4) (ret := (some .int)) rfl (by decide +kernel) rfl (Nat.le_of_ble_eq_true rfl) ?_
  intro p e s m args below meth c G
  obtain ⟨hm, hwm, hth, hsm, hle⟩ := id ho
  obtain ⟨hm1, hm2, hm3, hm4⟩ := id hm
  refine fV_lv (lv' := [(0, .ref (Γ.1 214))]) [0] rfl ?_
  refine fV_aload_n (pc' := 1) G 0 dX4_putAll_0 rfl rfl rfl ?_
  refine fV_iconst (pc' := 2) G dX4_putAll_1 rfl ?_
  refine fV_put (K := 4) (jj := 0) (x := 0) (v := .int (i32 0)) (ty := .int) (pc' := 5) G kfX4_putAll_26 (by omega) rfl rfl rfl kp4_0 rfl rfl (Nat.le_of_ble_eq_true rfl) dX4_putAll_2 rfl (fun I1 eI1 => ?_)
  refine fV_mem (I' := I) (P' := P) (by rw [eI1]; exact fup_id hth) rfl ?_
  refine fV_aload_n (pc' := 6) G 0 dX4_putAll_5 rfl rfl rfl ?_
  obtain ⟨I2, eI2⟩ : ∃ J9 : fM, J9 = mAct I := ⟨_, rfl⟩
  refine fV_callVf (I' := I2) (st' := []) (n := 0) (k := 214) (K := 4) (As := []) (rest := []) (pc' := 9) G (by rw [eI2]; exact mX4_act l Γ hN I P (by first | exact hsm | omega)) kcX4_putAll_96 (by omega) rfl rfl rfl rfl (Nat.le_of_ble_eq_true rfl) (Nat.zero_le _) (Nat.zero_le _) dX4_putAll_6 rfl rfl ?_
  have hA5 : I2 215 = I 215 := by rw [eI2, mAct_o (by decide) (by decide)]
  refine fV_iconst (pc' := 10) G dX4_putAll_9 rfl ?_
  refine fV_istore_n (lv' := [(1, .int (i32 0)), (0, .ref (Γ.1 214))]) (pc' := 11) G dX4_putAll_10 rfl (by decide) rfl rfl ?_
  have lpa : ∀ (z : Nat) (k : Int) (J : fM), 0 ≤ k ∧ k ≤ I 215 0 → J 215 = rOffN (I 215) k.toNat → (∀ j : Int, 0 ≤ j → j < k → J 219 j = 0) → (∀ a : Nat, a ≠ 215 → a ≠ 219 → J a = mAct I a) → ((I 215 0 - k).toNat) = z → fV p l e rmX4_putAll s m args below meth c (MQ below (fQ Γ N (fun v J Q => v = some (.int (i32 (mCnt (J 215)))) ∧ J 215 = rPutN (rOffN (I 215) (I 215 0).toNat) o (I 215 0).toNat ∧ (∀ a : Nat, a ≠ 215 → a ≠ 219 → J a = mAct I a) ∧ Q = P)) args s 0 0 (fA Γ N)) (fA Γ N) Γ N 4 0 0 J P 11 [(0, .ref (Γ.1 214)), (1, .int (i32 k))] [] := by
    intro z
    induction z using Nat.strongRecOn with
    | _ z ih_lpa =>
      intro k J hk hJ5 hJ9 hJo hz_lpa
      refine fV_iload_n (pc' := 12) G 1 dX4_putAll_11 rfl rfl rfl ?_
      refine fV_aload_n (pc' := 13) G 0 dX4_putAll_12 rfl rfl rfl ?_
      refine fV_get (K := 4) (v := .ref (Γ.1 215)) (pc' := 16) G kfX4_putAll_7 (by omega) rfl rfl rfl dX4_putAll_13 rfl ?_
      refine fV_iconst (pc' := 17) G dX4_putAll_16 rfl ?_
      refine fV_iald (K := 8) (n := 241) (pc' := 18) G (by omega) rfl (fun _ _ => rfl) (by decide) (by omega) dX4_putAll_17 rfl ?_
      refine fV_top (b := I 215 0) (by rw [hJ5]; exact rOffN_o _ (fun w w0 w1 => by omega)) ?_
      refine fV_icmp_ge (tgt := 39) (pc' := 21) G dX4_putAll_18 (by decide) rfl (by omega) (by omega) (fun c103 => ?_) (fun c103 => ?_)
      · refine fV_aload_n (pc' := 40) G 0 dX4_putAll_39 rfl rfl rfl ?_
        have hkn : k = I 215 0 := by omega
        rw [hkn] at hJ5
        have hokI : mOkr (I 215) := mOkr_of hm hwm
        have hokA : mOkr (rOffN (I 215) (I 215 0).toNat) := rOffN_ok hokI _
        have hAo : ∀ b : Int, (∀ w : Int, b ≠ 13 + 19 * w + 4 ∧ b ≠ 13 + 19 * w + 5) → (rOffN (I 215) (I 215 0).toNat) b = I 215 b := fun b hb => rOffN_o _ (fun w w0 w1 => hb w)
        have hK0 : J 215 0 = I 215 0 := by rw [hJ5]; exact hAo 0 (fun w => by omega)
        have hKl : (fun w => J 215 (13 + 19 * w + 6)) = (fun w => I 215 (13 + 19 * w + 6)) := by funext w; rw [hJ5]; exact hAo _ (fun v => by omega)
        have hKf : (fun w => J 215 (13 + 19 * w + 0)) = (fun w => I 215 (13 + 19 * w + 0)) := by funext w; rw [hJ5]; exact hAo _ (fun v => by omega)
        have hd0 : ∀ j : Int, 0 ≤ j → j < I 215 0 → J 219 (o j) = if j < 0 then 1 else 0 := fun j j0 j1 => by rw [if_neg (by omega)]; have := hO.1 j j0 j1; exact hJ9 _ this.1 (by omega)
        obtain ⟨nx, hnx⟩ : ∃ nx : Int → Int, nx = fun i => if i < I 215 0 then o i else -19 := ⟨_, rfl⟩
        obtain ⟨J0, hJ0⟩ : ∃ J0 : fM, J0 = J := ⟨_, rfl⟩
        refine fV_callV (n := 0) (k := 214) (K := 4) (As := []) (rest := []) (pc' := 43) G (mX4_nextWord l Γ hN J P (mOkr_sv hJ5 hokA) (mOkr_wv hJ5 hokA) (fun j j0 j1 => by rw [show J 215 0 = I 215 0 from hK0] at j1; obtain ⟨j9, h9, e9⟩ := sOrd_sur hO j0 j1; rw [← e9]; have z9 := hd0 j9 h9.1 h9.2; rw [z9]; split <;> first | exact Or.inl rfl | exact Or.inr rfl)) kcX4_putAll_214 (by omega) rfl rfl rfl rfl (Nat.le_of_ble_eq_true rfl) (Nat.zero_le _) (Nat.zero_le _) dX4_putAll_40 rfl (fun v104 I105 P106 h107 => ?_)
        obtain ⟨r9, h107v, hsn, eI105, eP106⟩ := h107
        have hr9 : r9 = nx (0) := by rw [hnx]; exact sNext_is hO (by omega) hd0 (by rw [show J 215 0 = I 215 0 from hK0, show (fun w => J 215 (13 + 19 * w + 6)) = (fun w => I 215 (13 + 19 * w + 6)) from hKl, show (fun w => J 215 (13 + 19 * w + 0)) = (fun w => I 215 (13 + 19 * w + 0)) from hKf] at hsn; exact hsn)
        refine fV_mem (I' := J) (P' := P) eI105 eP106 ?_
        refine fV_st (st' := [.int (i32 (nx (0)))]) (by rw [h107v, hr9]; rfl) ?_
        refine fV_istore_n (lv' := [(1, .int (i32 (nx (0)))), (0, .ref (Γ.1 214))]) (pc' := 44) G dX4_putAll_43 rfl (by decide) rfl rfl ?_
        have lpb : ∀ (z : Nat) (i : Int) (J : fM), 0 ≤ i ∧ i ≤ I 215 0 → J 215 = rPutN (rOffN (I 215) (I 215 0).toNat) o i.toNat → (∀ j : Int, 0 ≤ j → j < I 215 0 → J 219 (o j) = if j < i then 1 else 0) → (∀ a : Nat, a ≠ 215 → a ≠ 219 → J a = mAct I a) → ((I 215 0 - i).toNat) = z → fV p l e rmX4_putAll s m args below meth c (MQ below (fQ Γ N (fun v J Q => v = some (.int (i32 (mCnt (J 215)))) ∧ J 215 = rPutN (rOffN (I 215) (I 215 0).toNat) o (I 215 0).toNat ∧ (∀ a : Nat, a ≠ 215 → a ≠ 219 → J a = mAct I a) ∧ Q = P)) args s 0 0 (fA Γ N)) (fA Γ N) Γ N 4 0 0 J P 44 [(0, .ref (Γ.1 214)), (1, .int (i32 (nx i)))] [] := by
          intro z
          induction z using Nat.strongRecOn with
          | _ z ih_lpb =>
            intro i J hi hJ5 hJ9 hJo hz_lpb
            have hnb : -19 ≤ nx i ∧ nx i ≤ 12 := by rw [hnx]; (try dsimp only); by_cases z : i < I 215 0; (rw [if_pos z]; have := hO.1 i hi.1 z; omega); (rw [if_neg z]; omega)
            refine fV_iload_n (pc' := 45) G 1 dX4_putAll_44 rfl rfl rfl ?_
            refine fV_bipush (n := -19) (pc' := 47) G dX4_putAll_45 rfl rfl ?_
            refine fV_icmp_eq (tgt := 95) (pc' := 50) G dX4_putAll_47 (by decide) rfl (by omega) (by decide) (fun c208 => ?_) (fun c208 => ?_)
            · have hin : i = I 215 0 := by rw [hnx] at c208; (try dsimp only at c208); by_cases z : i < I 215 0; (rw [if_pos z] at c208; have := hO.1 i hi.1 z; omega); omega
              rw [hin] at hJ5
              have hokE : mOkr (rPutN (rOffN (I 215) (I 215 0).toNat) o (I 215 0).toNat) := rPutN_ok (m := (I 215 0).toNat) hokA (fun y y0 y1 => (hO.1 y y0 (by omega)).1) _ (Nat.le_refl _)
              refine fV_aload_n (pc' := 96) G 0 dX4_putAll_95 rfl rfl rfl ?_
              refine fV_callVf (st' := [.int (i32 (mCnt (J 215)))]) (n := 0) (k := 214) (K := 4) (As := []) (rest := []) (pc' := 99) G (mX4_putMany l Γ hN J P (mOkr_sv hJ5 hokE) (mOkr_wv hJ5 hokE)) kcX4_putAll_211 (by omega) rfl rfl rfl rfl (Nat.le_of_ble_eq_true rfl) (Nat.zero_le _) (Nat.zero_le _) dX4_putAll_96 rfl rfl ?_
              refine fV_iret G dX4_putAll_99 ?_
              exact ⟨rfl, hJ5, hJo, rfl⟩
            · have hil : i < I 215 0 := by by_cases z : i < I 215 0; exact z; (rw [hnx] at c208; exact absurd (if_neg z) c208)
              have hni : nx i = o i := by rw [hnx]; exact if_pos hil
              have hoi := hO.1 i hi.1 hil
              refine fV_lv (lv' := [(0, .ref (Γ.1 214)), (1, .int (i32 (o i)))]) [0, 1] (by rw [← hni]; rfl) ?_
              refine fV_aload_n (pc' := 51) G 0 dX4_putAll_50 rfl rfl rfl ?_
              refine fV_get (K := 4) (v := .ref (Γ.1 219)) (pc' := 54) G kfX4_putAll_22 (by omega) rfl rfl rfl dX4_putAll_51 rfl ?_
              refine fV_iload_n (pc' := 55) G 1 dX4_putAll_54 rfl rfl rfl ?_
              refine fV_iconst (pc' := 56) G dX4_putAll_55 rfl ?_
              refine fV_zast (K := 10) (n := 12) (b := true) (pc' := 57) G (by omega) rfl (fun _ _ => rfl) (by decide) (by omega) dX4_putAll_56 rfl (fun I209 eI209 => ?_)
              obtain ⟨J1, eJ1⟩ : ∃ J1 : fM, J1 = fup J 219 (o i) 1 := ⟨_, rfl⟩
              refine fV_mem (I' := J1) (P' := P) (by rw [eJ1]; exact eI209) rfl ?_
              obtain ⟨s9, hs9e⟩ : ∃ s9 : Int → Int, s9 = rPutN (rOffN (I 215) (I 215 0).toNat) o i.toNat := ⟨_, rfl⟩
              have hs9 : J1 215 = s9 := by rw [eJ1, fup_ne (by decide), hJ5, hs9e]
              have hokS : mOkr s9 := by rw [hs9e]; exact rPutN_ok (m := (I 215 0).toNat) hokA (fun y y0 y1 => (hO.1 y y0 (by omega)).1) _ (by omega)
              have hs0 : s9 0 = I 215 0 := by rw [hs9e, rPutN_o (fun w => by omega)]; exact hAo 0 (fun w => by omega)
              obtain ⟨mo, hmo⟩ : ∃ mo : Int, mo = 40 - s9 (13 + 19 * o i + 6) := ⟨_, rfl⟩
              refine fV_iconst (pc' := 58) G dX4_putAll_57 rfl ?_
              refine fV_istore_n (lv' := [(2, .int (i32 0)), (0, .ref (Γ.1 214)), (1, .int (i32 (o i)))]) (pc' := 59) G dX4_putAll_58 rfl (by decide) rfl rfl ?_
              refine fV_iconst (pc' := 60) G dX4_putAll_59 rfl ?_
              refine fV_istore_n (lv' := [(3, .int (i32 0)), (2, .int (i32 0)), (0, .ref (Γ.1 214)), (1, .int (i32 (o i)))]) (pc' := 61) G dX4_putAll_60 rfl (by decide) rfl rfl ?_
              refine fV_lv (lv' := [(3, .int (i32 0)), (2, .int (i32 (fB false))), (0, .ref (Γ.1 214)), (1, .int (i32 (o i)))]) [0, 1, 2, 3] rfl ?_
              have lpc : ∀ (z : Nat) (tm : Int) (b : Bool) (K : fM), 0 ≤ tm ∧ tm ≤ 8 → paI J1 (o i) mo s9 tm b K → ((8 - tm).toNat) = z → fV p l e rmX4_putAll s m args below meth c (MQ below (fQ Γ N (fun v J Q => v = some (.int (i32 (mCnt (J 215)))) ∧ J 215 = rPutN (rOffN (I 215) (I 215 0).toNat) o (I 215 0).toNat ∧ (∀ a : Nat, a ≠ 215 → a ≠ 219 → J a = mAct I a) ∧ Q = P)) args s 0 0 (fA Γ N)) (fA Γ N) Γ N 4 0 0 K P 61 [(0, .ref (Γ.1 214)), (1, .int (i32 (o i))), (2, .int (i32 (fB b))), (3, .int (i32 tm))] [] := by
                intro z
                induction z using Nat.strongRecOn with
                | _ z ih_lpc =>
                  intro tm b K htm hpa hz_lpc
                  refine fV_iload_n (pc' := 62) G 3 dX4_putAll_61 rfl rfl rfl ?_
                  refine fV_bipush (n := 8) (pc' := 64) G dX4_putAll_62 rfl rfl ?_
                  refine fV_icmp_ge (tgt := 87) (pc' := 67) G dX4_putAll_64 (by decide) rfl (by omega) (by decide) (fun c310 => ?_) (fun c310 => ?_)
                  · have hend : 8 ≤ tm ∨ b = true := Or.inl (by omega)
                    refine fV_aload_n (pc' := 88) G 0 dX4_putAll_87 rfl rfl rfl ?_
                    obtain ⟨hE5, hEo⟩ := pa_end hs9 (by rw [← hmo]; exact hpa) hend
                    have hK5 : K 215 = rPutN (rOffN (I 215) (I 215 0).toNat) o (i + 1).toNat := by rw [rPutN_s (by omega), ← hs9e]; exact hE5
                    have hokK5 : mOkr (rPutN (rOffN (I 215) (I 215 0).toNat) o (i + 1).toNat) := rPutN_ok (m := (I 215 0).toNat) hokA (fun y y0 y1 => (hO.1 y y0 (by omega)).1) _ (by omega)
                    have hPo : ∀ b : Int, (∀ w : Int, b ≠ 13 + 19 * w + 4 ∧ b ≠ 13 + 19 * w + 5) → K 215 b = I 215 b := fun b hb => by rw [hK5, rPutN_o hb]; exact hAo b hb
                    have hK0 : K 215 0 = I 215 0 := hPo 0 (fun w => by omega)
                    have hKl : (fun w => K 215 (13 + 19 * w + 6)) = (fun w => I 215 (13 + 19 * w + 6)) := by funext w; exact hPo _ (fun v => by omega)
                    have hKf : (fun w => K 215 (13 + 19 * w + 0)) = (fun w => I 215 (13 + 19 * w + 0)) := by funext w; exact hPo _ (fun v => by omega)
                    have hd9 : ∀ j : Int, 0 ≤ j → j < I 215 0 → K 219 (o j) = if j < i + 1 then 1 else 0 := fun j j0 j1 => by rw [hEo 219 (by decide), eJ1]; by_cases z : j = i; (rw [z, fup_s, if_pos (by omega)]); rw [fup_j (fun y => z (sOrd_inj hO j0 j1 (by omega) (by omega) y)), hJ9 j j0 j1]; (by_cases y : j < i; rw [if_pos y, if_pos (by omega)]; rw [if_neg y, if_neg (by omega)])
                    refine fV_callV (n := 0) (k := 214) (K := 4) (As := []) (rest := []) (pc' := 91) G (mX4_nextWord l Γ hN K P (mOkr_sv hK5 hokK5) (mOkr_wv hK5 hokK5) (fun j j0 j1 => by rw [show K 215 0 = I 215 0 from hK0] at j1; obtain ⟨j9, h9, e9⟩ := sOrd_sur hO j0 j1; rw [← e9]; have z9 := hd9 j9 h9.1 h9.2; rw [z9]; split <;> first | exact Or.inl rfl | exact Or.inr rfl)) kcX4_putAll_214 (by omega) rfl rfl rfl rfl (Nat.le_of_ble_eq_true rfl) (Nat.zero_le _) (Nat.zero_le _) dX4_putAll_88 rfl (fun v311 I312 P313 h314 => ?_)
                    obtain ⟨r9, h314v, hsn, eI312, eP313⟩ := h314
                    have hr9 : r9 = nx (i + 1) := by rw [hnx]; exact sNext_is hO (by omega) hd9 (by rw [show K 215 0 = I 215 0 from hK0, show (fun w => K 215 (13 + 19 * w + 6)) = (fun w => I 215 (13 + 19 * w + 6)) from hKl, show (fun w => K 215 (13 + 19 * w + 0)) = (fun w => I 215 (13 + 19 * w + 0)) from hKf] at hsn; exact hsn)
                    refine fV_mem (I' := K) (P' := P) eI312 eP313 ?_
                    refine fV_st (st' := [.int (i32 (nx (i + 1)))]) (by rw [h314v, hr9]; rfl) ?_
                    refine fV_istore_n (lv' := [(1, .int (i32 (nx (i + 1)))), (0, .ref (Γ.1 214)), (2, .int (i32 (fB b))), (3, .int (i32 tm))]) (pc' := 92) G dX4_putAll_91 rfl (by decide) rfl rfl ?_
                    refine fV_goto (tgt := 44) G dX4_putAll_92 (by decide) ?_
                    refine fV_lv (lv' := [(0, .ref (Γ.1 214)), (1, .int (i32 (nx (i + 1))))]) [1, 0] rfl ?_
                    exact ih_lpb _ (by omega) (i + 1) K (by omega) hK5 hd9 (fun a a1 a2 => by rw [hEo a a1, eJ1, fup_ne a2]; exact hJo a a1 a2) rfl
                  · refine fV_iload_n (pc' := 68) G 2 dX4_putAll_67 rfl rfl rfl ?_
                    refine fV_ifne_b (tgt := 87) (pc' := 71) G dX4_putAll_68 (by decide) rfl (fun c311 => ?_) (fun c311 => ?_)
                    · have hend : 8 ≤ tm ∨ b = true := Or.inr c311
                      refine fV_aload_n (pc' := 88) G 0 dX4_putAll_87 rfl rfl rfl ?_
                      obtain ⟨hE5, hEo⟩ := pa_end hs9 (by rw [← hmo]; exact hpa) hend
                      have hK5 : K 215 = rPutN (rOffN (I 215) (I 215 0).toNat) o (i + 1).toNat := by rw [rPutN_s (by omega), ← hs9e]; exact hE5
                      have hokK5 : mOkr (rPutN (rOffN (I 215) (I 215 0).toNat) o (i + 1).toNat) := rPutN_ok (m := (I 215 0).toNat) hokA (fun y y0 y1 => (hO.1 y y0 (by omega)).1) _ (by omega)
                      have hPo : ∀ b : Int, (∀ w : Int, b ≠ 13 + 19 * w + 4 ∧ b ≠ 13 + 19 * w + 5) → K 215 b = I 215 b := fun b hb => by rw [hK5, rPutN_o hb]; exact hAo b hb
                      have hK0 : K 215 0 = I 215 0 := hPo 0 (fun w => by omega)
                      have hKl : (fun w => K 215 (13 + 19 * w + 6)) = (fun w => I 215 (13 + 19 * w + 6)) := by funext w; exact hPo _ (fun v => by omega)
                      have hKf : (fun w => K 215 (13 + 19 * w + 0)) = (fun w => I 215 (13 + 19 * w + 0)) := by funext w; exact hPo _ (fun v => by omega)
                      have hd9 : ∀ j : Int, 0 ≤ j → j < I 215 0 → K 219 (o j) = if j < i + 1 then 1 else 0 := fun j j0 j1 => by rw [hEo 219 (by decide), eJ1]; by_cases z : j = i; (rw [z, fup_s, if_pos (by omega)]); rw [fup_j (fun y => z (sOrd_inj hO j0 j1 (by omega) (by omega) y)), hJ9 j j0 j1]; (by_cases y : j < i; rw [if_pos y, if_pos (by omega)]; rw [if_neg y, if_neg (by omega)])
                      refine fV_callV (n := 0) (k := 214) (K := 4) (As := []) (rest := []) (pc' := 91) G (mX4_nextWord l Γ hN K P (mOkr_sv hK5 hokK5) (mOkr_wv hK5 hokK5) (fun j j0 j1 => by rw [show K 215 0 = I 215 0 from hK0] at j1; obtain ⟨j9, h9, e9⟩ := sOrd_sur hO j0 j1; rw [← e9]; have z9 := hd9 j9 h9.1 h9.2; rw [z9]; split <;> first | exact Or.inl rfl | exact Or.inr rfl)) kcX4_putAll_214 (by omega) rfl rfl rfl rfl (Nat.le_of_ble_eq_true rfl) (Nat.zero_le _) (Nat.zero_le _) dX4_putAll_88 rfl (fun v312 I313 P314 h315 => ?_)
                      obtain ⟨r9, h315v, hsn, eI313, eP314⟩ := h315
                      have hr9 : r9 = nx (i + 1) := by rw [hnx]; exact sNext_is hO (by omega) hd9 (by rw [show K 215 0 = I 215 0 from hK0, show (fun w => K 215 (13 + 19 * w + 6)) = (fun w => I 215 (13 + 19 * w + 6)) from hKl, show (fun w => K 215 (13 + 19 * w + 0)) = (fun w => I 215 (13 + 19 * w + 0)) from hKf] at hsn; exact hsn)
                      refine fV_mem (I' := K) (P' := P) eI313 eP314 ?_
                      refine fV_st (st' := [.int (i32 (nx (i + 1)))]) (by rw [h315v, hr9]; rfl) ?_
                      refine fV_istore_n (lv' := [(1, .int (i32 (nx (i + 1)))), (0, .ref (Γ.1 214)), (2, .int (i32 (fB b))), (3, .int (i32 tm))]) (pc' := 92) G dX4_putAll_91 rfl (by decide) rfl rfl ?_
                      refine fV_goto (tgt := 44) G dX4_putAll_92 (by decide) ?_
                      refine fV_lv (lv' := [(0, .ref (Γ.1 214)), (1, .int (i32 (nx (i + 1))))]) [1, 0] rfl ?_
                      exact ih_lpb _ (by omega) (i + 1) K (by omega) hK5 hd9 (fun a a1 a2 => by rw [hEo a a1, eJ1, fup_ne a2]; exact hJo a a1 a2) rfl
                    · have hb0 : b = false := c311
                      refine fV_aload_n (pc' := 72) G 0 dX4_putAll_71 rfl rfl rfl ?_
                      refine fV_iload_n (pc' := 73) G 1 dX4_putAll_72 rfl rfl rfl ?_
                      refine fV_iload_n (pc' := 74) G 3 dX4_putAll_73 rfl rfl rfl ?_
                      refine fV_callSf (st' := [.int (i32 (sLane tm)), .int (i32 (o i)), .ref (Γ.1 214)]) (n := 1) (As := [.int (i32 tm)]) (rest := [.int (i32 (o i)), .ref (Γ.1 214)]) (pc' := 77) G (mX4_laneOf l Γ hN K P tm (by omega)) kcX4_putAll_217 rfl rfl (Nat.le_of_ble_eq_true rfl) (Nat.zero_le _) (Nat.zero_le _) dX4_putAll_74 rfl rfl ?_
                      obtain ⟨hL1, hL2, hL3, hL4⟩ := pa_row hs9 hpa hb0
                      have hokK : mOkr (K 215) := by rcases hL4 with z | z; exact z ▸ hokS; exact z ▸ mOkr_off hokS (by omega)
                      have hmoK : 40 - K 215 (13 + 19 * o i + 6) = mo := by rw [hmo]; rcases hL4 with z | z; rw [z]; rw [z]; unfold rOff; rw [rLay_o (by omega) (by omega)]
                      have hK0 : K 215 0 = I 215 0 := by rcases hL4 with z | z; rw [z]; exact hs0; rw [z]; unfold rOff; rw [rLay_o (by omega) (by omega)]; exact hs0
                      obtain ⟨I312, eI312⟩ : ∃ J9 : fM, J9 = if sTF (rFr (K 215) (o i)) (40 - K 215 (13 + 19 * o i + 6)) (sLane tm) < 81 then mLay K (o i) (sLane tm) (sTurn (40 - K 215 (13 + 19 * o i + 6)) (sTF (rFr (K 215) (o i)) (40 - K 215 (13 + 19 * o i + 6)) (sLane tm))) else mOff K (o i) := ⟨_, rfl⟩
                      refine fV_callVf (I' := I312) (st' := [.int (i32 (fB (decide (sTF (rFr (K 215) (o i)) (40 - K 215 (13 + 19 * o i + 6)) (sLane tm) < 81))))]) (n := 2) (k := 214) (K := 4) (As := [.int (i32 (o i)), .int (i32 (sLane tm))]) (rest := []) (pc' := 80) G (by rw [eI312]; exact mX4_laysIn l Γ hN K P hokK (o i) (sLane tm) (by rw [hK0]; omega) (sLane_b tm)) kcX4_putAll_220 (by omega) rfl rfl rfl rfl (Nat.le_of_ble_eq_true rfl) (Nat.zero_le _) (Nat.zero_le _) dX4_putAll_77 rfl rfl ?_
                      rw [hL3, hmoK] at eI312
                      refine fV_st (st' := [.int (i32 (fB (decide (sTF (rFr s9 (o i)) mo (sLane tm) < 81))))]) (by rw [hL3, hmoK]) ?_
                      have hpa9 := pa_step hs9 hpa hb0 (by omega) eI312
                      refine fV_istore_n (lv' := [(2, .int (i32 (fB (decide (sTF (rFr s9 (o i)) mo (sLane tm) < 81))))), (0, .ref (Γ.1 214)), (1, .int (i32 (o i))), (3, .int (i32 tm))]) (pc' := 81) G dX4_putAll_80 rfl (by decide) rfl rfl ?_
                      refine fV_iinc (lv' := [(3, .int (i32 (tm + 1))), (2, .int (i32 (fB (decide (sTF (rFr s9 (o i)) mo (sLane tm) < 81))))), (0, .ref (Γ.1 214)), (1, .int (i32 (o i)))]) (pc' := 84) G 3 dX4_putAll_81 rfl (by decide) rfl rfl ?_
                      refine fV_goto (tgt := 61) G dX4_putAll_84 (by decide) ?_
                      refine fV_lv (lv' := [(0, .ref (Γ.1 214)), (1, .int (i32 (o i))), (2, .int (i32 (fB (decide (sTF (rFr s9 (o i)) mo (sLane tm) < 81))))), (3, .int (i32 (tm + 1)))]) [2, 3, 1, 0] rfl ?_
                      exact ih_lpc _ (by omega) (tm + 1) (decide (sTF (rFr s9 (o i)) mo (sLane tm) < 81)) I312 (by omega) hpa9 rfl
              refine fV_lv (lv' := [(0, .ref (Γ.1 214)), (1, .int (i32 (o i))), (2, .int (i32 (fB false))), (3, .int (i32 0))]) [2, 3, 1, 0] rfl ?_
              exact lpc _ 0 false J1 (by omega) pa_0 rfl
        refine fV_lv (lv' := [(0, .ref (Γ.1 214)), (1, .int (i32 (nx (0))))]) [1, 0] rfl ?_
        exact lpb _ 0 J (by omega) hJ5 hd0 hJo rfl
      · refine fV_aload_n (pc' := 22) G 0 dX4_putAll_21 rfl rfl rfl ?_
        refine fV_iload_n (pc' := 23) G 1 dX4_putAll_22 rfl rfl rfl ?_
        obtain ⟨I104, eI104⟩ : ∃ J9 : fM, J9 = mOff J k := ⟨_, rfl⟩
        refine fV_callVf (I' := I104) (st' := []) (n := 1) (k := 214) (K := 4) (As := [.int (i32 k)]) (rest := []) (pc' := 26) G (by rw [eI104]; exact mX4_takeOff l Γ hN J P k (by omega)) kcX4_putAll_106 (by omega) rfl rfl rfl rfl (Nat.le_of_ble_eq_true rfl) (Nat.zero_le _) (Nat.zero_le _) dX4_putAll_23 rfl rfl ?_
        refine fV_aload_n (pc' := 27) G 0 dX4_putAll_26 rfl rfl rfl ?_
        refine fV_get (K := 4) (v := .ref (Γ.1 219)) (pc' := 30) G kfX4_putAll_22 (by omega) rfl rfl rfl dX4_putAll_27 rfl ?_
        refine fV_iload_n (pc' := 31) G 1 dX4_putAll_30 rfl rfl rfl ?_
        refine fV_iconst (pc' := 32) G dX4_putAll_31 rfl ?_
        refine fV_zast (K := 10) (n := 12) (b := false) (pc' := 33) G (by omega) rfl (fun _ _ => rfl) (by decide) (by omega) dX4_putAll_32 rfl (fun I105 eI105 => ?_)
        refine fV_iinc (lv' := [(1, .int (i32 (k + 1))), (0, .ref (Γ.1 214))]) (pc' := 36) G 1 dX4_putAll_33 rfl (by decide) rfl rfl ?_
        refine fV_goto (tgt := 11) G dX4_putAll_36 (by decide) ?_
        refine fV_lv (lv' := [(0, .ref (Γ.1 214)), (1, .int (i32 (k + 1)))]) [1, 0] rfl ?_
        exact ih_lpa _ (by omega) (k + 1) I105 (by omega) (by rw [eI105, fup_ne (by decide), eI104, mOff_row, hJ5, ← rOffN_s (by omega)]) (fun j h0 h1 => by rw [eI105]; by_cases z : j = k; (rw [z, fup_s]; rfl); rw [fup_j z, eI104, mOff_o (by decide)]; exact hJ9 j h0 (by omega)) (fun a a1 a2 => by rw [eI105, fup_ne a2, eI104, mOff_o a1]; exact hJo a a1 a2) rfl
  refine fV_lv (lv' := [(0, .ref (Γ.1 214)), (1, .int (i32 0))]) [1, 0] rfl ?_
  exact lpa _ 0 I2 (by omega) (by rw [hA5]; rfl) (fun j h0 h1 => by omega) (fun a _ _ => by rw [eI2]) rfl
