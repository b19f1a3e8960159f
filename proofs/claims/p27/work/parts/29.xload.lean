/-! CONTRACTS 20b: load (rows laid by wip/whole/gen/con20.py) -/
set_option maxHeartbeats 4000000 in
set_option maxRecDepth 100000 in
theorem mX3_load (l : Launch) (Γ : fG) {N : Nat} (hN : 214 ≤ N) (I : fM) (P : fN) (hx : xAll I P) {sr : Int → Int} (hr : Rel I P 1 sr) (hmo : mOkr sr) (hsd : sDi sr) (hT : tOk (I 213) (I 212 1)) : fMet l yX3_load wsX3_load rmX3_load Γ N [.ref (Γ.1 0)] I P (fun v J Q => v = some (.int (i32 (pLoad (I 213) (I 212 1) 23 sr 0 0).1)) ∧ (((pLoad (I 213) (I 212 1) 23 sr 0 0).1 < 0 ∧ oEq I J 31 ∧ Q = P) ∨ (0 ≤ (pLoad (I 213) (I 212 1) 23 sr 0 0).1 ∧ ∃ I2 M, oEq I I2 31 ∧ xRec I2 P M Q ∧ Rel J Q 1 (pLoad (I 213) (I 212 1) 23 sr 0 0).2 ∧ mOkr (pLoad (I 213) (I 212 1) 23 sr 0 0).2 ∧ sDi (pLoad (I 213) (I 212 1) 23 sr 0 0).2 ∧ J 212 1 = 0 ∧ (∀ a : Nat, a ≠ 212 → (a < 1 ∨ 31 ≤ a) → J a = M a) ∧ ∀ b : Int, b ≠ 1 → J 212 b = M 212 b))) := by
  refine fMet_of (own := RX3) (cc := cX3_load) (maxL := 2) (ret := (some .int)) rfl (by decide +kernel) rfl (Nat.le_of_ble_eq_true rfl) ?_
  intro p e s m args below meth c G
  have ho := xAll_ok hx
  obtain ⟨hv, hp, hww, hst, htl⟩ := id ho
  obtain ⟨hv1, hv3, hv4, hvs⟩ := id hv
  obtain ⟨⟨-, -, hdi⟩, hpa, hhs, hhist, -, -⟩ := id hx
  have hz1 : ∀ w : Int, 0 ≤ w → w < I 1 1 → I (P (1 + 1) w) 6 = 0 ∨ I (P (1 + 1) w) 6 = 1 := fun w h0 h1 => (hww w h0 h1).2.2.2.2.2.1
  refine fV_lv (lv' := [(0, .ref (Γ.1 0))]) [0] rfl ?_
  refine fV_aload_n (pc' := 1) G 0 dX3_load_0 rfl rfl rfl ?_
  refine fV_get (K := 3) (v := .ref (Γ.1 31)) (pc' := 4) G kfX3_load_16 (by omega) rfl rfl rfl dX3_load_1 rfl ?_
  refine fV_aload_n (pc' := 5) G 0 dX3_load_4 rfl rfl rfl ?_
  refine fV_get (K := 3) (v := .ref (Γ.1 1)) (pc' := 8) G kfX3_load_10 (by omega) rfl rfl rfl dX3_load_5 rfl ?_
  refine fV_callV (n := 1) (k := 31) (K := 0) (As := [.ref (Γ.1 1)]) (rest := []) (pc' := 11) G (mX0_copyFrom l Γ hN I P fSc_31 fSc_1 (by decide) (hpa 31 fSc_31) hp hv1 (fun w h0 h1 => (hww w h0 h1).2.2.2.2.2.1)) kcX3_load_107 (by omega) rfl rfl rfl rfl (Nat.le_of_ble_eq_true rfl) (Nat.zero_le _) (Nat.zero_le _) dX3_load_8 rfl (fun v1 I2 P3 h4 => ?_)
  obtain ⟨h4v, eP3, hve1, hou1⟩ := h4
  refine fV_st (st' := []) (by rw [h4v]; rfl) ?_
  refine fV_mem (I' := I2) (P' := P) rfl eP3 ?_
  have hr1 : Rel I2 P 31 sr := Rel_v hmo hr hve1
  have oe1 : oEq I I2 31 := ⟨fun a _ h2 => hou1 a h2, fun b _ _ _ => by rw [hou1 212 (by omega)]⟩
  have ht1 : I2 213 = I 213 ∧ I2 212 1 = I 212 1 := ⟨by rw [hou1 213 (by omega)], by rw [hou1 212 (by omega)]⟩
  refine fV_aload_n (pc' := 12) G 0 dX3_load_11 rfl rfl rfl ?_
  refine fV_get (K := 3) (v := .ref (Γ.1 212)) (pc' := 15) G kfX3_load_30 (by omega) rfl rfl rfl dX3_load_12 rfl ?_
  refine fV_aload_n (pc' := 16) G 0 dX3_load_15 rfl rfl rfl ?_
  refine fV_get (K := 3) (v := .ref (Γ.1 31)) (pc' := 19) G kfX3_load_16 (by omega) rfl rfl rfl dX3_load_16 rfl ?_
  refine fV_callV (n := 1) (k := 212) (K := 1) (As := [.ref (Γ.1 31)]) (rest := []) (pc' := 22) G (mX1_readInto l Γ hN I2 P htl hT ht1 fSc_31 (hpa 31 fSc_31) hr1 hmo hsd) kcX3_load_111 (by omega) rfl rfl rfl rfl (Nat.le_of_ble_eq_true rfl) (Nat.zero_le _) (Nat.zero_le _) dX3_load_19 rfl (fun v5 I6 P7 h8 => ?_)
  obtain ⟨h8v, hrb, hro, hoe2, eP7⟩ := h8
  refine fV_st (st' := [.int (i32 (pLoad (I 213) (I 212 1) 23 sr 0 0).1)]) (by rw [h8v]; rfl) ?_
  refine fV_mem (I' := I6) (P' := P) rfl eP7 ?_
  have oe2 : oEq I I6 31 := oEq_tr oe1 hoe2
  have k0 : I6 0 = I 0 := oe2.1 0 (by decide) (by omega)
  have k1 : I6 1 = I 1 := oe2.1 1 (by decide) (by omega)
  have k3 : I6 3 = I 3 := oe2.1 3 (by decide) (by omega)
  have kw : ∀ w : Int, 0 ≤ w → w < 12 → I6 (P (1 + 1) w) = I (P (1 + 1) w) := fun w h0 h1 => by obtain ⟨j9, h9, e9⟩ := hp.1 w h0 h1; exact oe2.1 _ (by omega) (by omega)
  refine fV_istore_n (lv' := [(1, .int (i32 ((pLoad (I 213) (I 212 1) 23 sr 0 0).1))), (0, .ref (Γ.1 0))]) (pc' := 23) G dX3_load_22 rfl (by decide) rfl rfl ?_
  refine fV_iload_n (pc' := 24) G 0 dX3_load_23 rfl rfl rfl ?_
  refine fV_if_ge (tgt := 29) (pc' := 27) G dX3_load_24 (by decide) rfl (by omega) (fun c9 => ?_) (fun c9 => ?_)
  · refine fV_aload_n (pc' := 30) G 1 dX3_load_29 rfl rfl rfl ?_
    refine fV_callV (n := 0) (k := 0) (K := 3) (As := []) (rest := []) (pc' := 33) G (mX3_record l Γ hN I6 P (by rw [k0]; exact hst) hhs hpa (by rw [k1]; exact hv1) (fun w h0 h1 => by rw [k1] at h1; rw [kw w h0 (by omega)]; exact hz1 w h0 h1)) kcX3_load_46 (by omega) rfl rfl rfl rfl (Nat.le_of_ble_eq_true rfl) (Nat.zero_le _) (Nat.zero_le _) dX3_load_30 rfl (fun v10 I11 P12 h13 => ?_)
    obtain ⟨h13v, hrec⟩ := h13
    refine fV_st (st' := []) (by rw [h13v]; rfl) ?_
    have hst2 : 0 ≤ I6 0 3 ∧ I6 0 3 ≤ 5 := by rw [k0]; exact hst
    have hpaN : fPa P12 := xRec_p hpa hrec
    have hok := hro (by omega)
    have hN32 : P12 (31 + 1) = P (31 + 1) := by rw [hrec.1]; unfold xRecP; split; exact pRot_o (by decide); rfl
    have hrM : Rel I11 P12 31 (pLoad (I 213) (I 212 1) 23 sr 0 0).2 := Rel_eq (hpa 31 fSc_31) hN32 hok.2.1.1.1.2 (xRec_o hhs hst2 hrec (by decide) (by omega)) (xRec_o hhs hst2 hrec (by decide) (by omega)) (fun a h1 h2 => xRec_o hhs hst2 hrec (by omega) (by omega)) hok.1
    refine fV_aload_n (pc' := 34) G 1 dX3_load_33 rfl rfl rfl ?_
    refine fV_get (K := 3) (v := .ref (Γ.1 1)) (pc' := 37) G kfX3_load_10 (by omega) rfl rfl rfl dX3_load_34 rfl ?_
    refine fV_aload_n (pc' := 38) G 1 dX3_load_37 rfl rfl rfl ?_
    refine fV_get (K := 3) (v := .ref (Γ.1 31)) (pc' := 41) G kfX3_load_16 (by omega) rfl rfl rfl dX3_load_38 rfl ?_
    refine fV_callV (n := 1) (k := 1) (K := 0) (As := [.ref (Γ.1 31)]) (rest := []) (pc' := 44) G (mX0_copyFrom l Γ hN I11 P12 fSc_1 fSc_31 (by decide) (hpaN 1 fSc_1) (hpaN 31 fSc_31) (Rel_sv hrM hok.2.1).1 (fun w h0 h1 => (Rel_wv hrM hok.2.1 w h0 h1).2.2.2.2.2.1)) kcX3_load_107 (by omega) rfl rfl rfl rfl (Nat.le_of_ble_eq_true rfl) (Nat.zero_le _) (Nat.zero_le _) dX3_load_41 rfl (fun v14 I15 P16 h17 => ?_)
    obtain ⟨h17v, eP16, hve3, hou3⟩ := h17
    refine fV_st (st' := []) (by rw [h17v]; rfl) ?_
    refine fV_mem (I' := I15) (P' := P12) rfl eP16 ?_
    have hr3 : Rel I15 P12 1 (pLoad (I 213) (I 212 1) 23 sr 0 0).2 := Rel_v hok.2.1 hrM hve3
    refine fV_aload_n (pc' := 45) G 1 dX3_load_44 rfl rfl rfl ?_
    refine fV_get (K := 3) (v := .ref (Γ.1 212)) (pc' := 48) G kfX3_load_30 (by omega) rfl rfl rfl dX3_load_45 rfl ?_
    refine fV_iconst (pc' := 49) G dX3_load_48 rfl ?_
    refine fV_put (K := 1) (jj := 1) (x := 0) (v := .int (i32 0)) (ty := .int) (pc' := 52) G kfX3_load_100 (by omega) rfl rfl rfl kp1_1 rfl rfl (Nat.le_of_ble_eq_true rfl) dX3_load_49 rfl (fun I18 eI18 => ?_)
    refine fV_iload_n (pc' := 53) G 0 dX3_load_52 rfl rfl rfl ?_
    refine fV_iret G dX3_load_53 ?_
    exact ⟨rfl, Or.inr ⟨by omega, I6, I11, oe2, hrec, Rel_eq (hpaN 1 fSc_1) rfl hok.2.1.1.1.2 (by rw [eI18, fup_ne (by decide)]) (by rw [eI18, fup_ne (by decide)]) (fun a h1 h2 => by rw [eI18, fup_ne (by omega)]) hr3, hok.2.1, hok.2.2, by rw [eI18, fup_s], fun a h1 h2 => by rw [eI18, fup_ne h1]; exact hou3 a h2, fun b hb => by rw [eI18, fup_j hb, hou3 212 (by omega)]⟩⟩
  · refine fV_iload_n (pc' := 28) G 0 dX3_load_27 rfl rfl rfl ?_
    refine fV_iret G dX3_load_28 ?_
    exact ⟨rfl, Or.inl ⟨by omega, oe2, rfl⟩⟩
