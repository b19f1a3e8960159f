/-! CONTRACTS 14: putAll of the class (rows laid by wip/whole/gen/con14.py) -/
set_option maxHeartbeats 4000000 in
set_option maxRecDepth 100000 in
theorem mX3_putAll (l : Launch) (Γ : fG) {N : Nat} (hN : 214 ≤ N) (I : fM) (P : fN) (hx : xAll I P) : fMet l yX3_putAll wsX3_putAll rmX3_putAll Γ N [.ref (Γ.1 0)] I P (fun v J Q => v = some (.int (i32 (xCnt J Q))) ∧ ∃ M N o, xRec I P M N ∧ sOrd (fun w => I (P 2 w) 1) (fun w => I (P 2 w) 2) (I 1 1) o ∧ xEq (xPutN (xTake M N 1 (I 1 1)) N o (I 1 1).toNat) J ∧ Q = N) := by
  refine fMet_of (own := RX3) (cc := cX3_putAll) (maxL := 2) (ret := (some .int)) rfl (by decide +kernel) rfl (Nat.le_of_ble_eq_true rfl) ?_
  intro p e s m args below meth c G
  have ho := xAll_ok hx
  obtain ⟨hv, hp, hww, hst, htl⟩ := id ho
  obtain ⟨hv1, hv3, hv4, hvs⟩ := id hv
  obtain ⟨⟨-, -, hdi⟩, hpa, hhs, hhist, -, -⟩ := id hx
  have hz1 : ∀ w : Int, 0 ≤ w → w < I 1 1 → I (P (1 + 1) w) 6 = 0 ∨ I (P (1 + 1) w) 6 = 1 := fun w h0 h1 => (hww w h0 h1).2.2.2.2.2.1
  refine fV_lv (lv' := [(0, .ref (Γ.1 0))]) [0] rfl ?_
  refine fV_aload_n (pc' := 1) G 0 dX3_putAll_0 rfl rfl rfl ?_
  refine fV_callV (n := 0) (k := 0) (K := 3) (As := []) (rest := []) (pc' := 4) G (mX3_record l Γ hN I P hst hhs hpa hv1 hz1) kcX3_putAll_46 (by omega) rfl rfl rfl rfl (Nat.le_of_ble_eq_true rfl) (Nat.zero_le _) (Nat.zero_le _) dX3_putAll_1 rfl (fun v1 I2 P3 h4 => ?_)
  obtain ⟨h4v, hrec⟩ := h4
  refine fV_st (st' := []) (by rw [h4v]; rfl) ?_
  have hM1 : I2 1 = I 1 := xRec_o hhs hst hrec (by decide) (by decide)
  have hM3 : I2 3 = I 3 := xRec_o hhs hst hrec (by decide) (by decide)
  have hMw : ∀ w : Int, 0 ≤ w → w < 12 → I2 (P 2 w) = I (P 2 w) := fun w h0 h1 => (xRec_w hp hhs hst hrec h0 h1).1
  have hMv : fSv I2 1 := xRec_v hv hhs hst hrec
  have hN2 : P3 2 = P 2 := xRec_2 hrec
  have hpaN : fPa P3 := xRec_p hpa hrec
  have hpN : fPs P3 1 := hpaN 1 fSc_1
  refine fV_aload_n (pc' := 5) G 0 dX3_putAll_4 rfl rfl rfl ?_
  refine fV_get (K := 3) (v := .ref (Γ.1 1)) (pc' := 8) G kfX3_putAll_10 (by omega) rfl rfl rfl dX3_putAll_5 rfl ?_
  obtain ⟨I5, eI5⟩ : ∃ J9 : fM, J9 = xTake I2 P3 1 (I2 1 1) := ⟨_, rfl⟩
  refine fV_callVf (I' := I5) (st' := []) (n := 0) (k := 1) (K := 0) (As := []) (rest := []) (pc' := 11) G (by rw [eI5]; exact mX0_takeAllWords l Γ hN I2 P3 fSc_1 hpN (by rw [hM1]; exact hv1)) kcX3_putAll_132 (by omega) rfl rfl rfl rfl (Nat.le_of_ble_eq_true rfl) (Nat.zero_le _) (Nat.zero_le _) dX3_putAll_8 rfl rfl ?_
  refine fV_aload_n (pc' := 12) G 0 dX3_putAll_11 rfl rfl rfl ?_
  refine fV_get (K := 3) (v := .ref (Γ.1 1)) (pc' := 15) G kfX3_putAll_10 (by omega) rfl rfl rfl dX3_putAll_12 rfl ?_
  have hT : I5 = xTake I2 P3 1 (I 1 1) := by rw [eI5, hM1]
  have hT1 : I5 1 = I 1 := by rw [hT, xTake_1 hpN hv1.2 (by decide), hM1]
  have hT3 : I5 3 = I 3 := by rw [hT, xTake_1 hpN hv1.2 (by decide), hM3]
  have hTw : ∀ w : Int, 0 ≤ w → w < I5 1 1 → fWv I5 (P3 (1 + 1) w) := fun w h0 h1 => by rw [hT1] at h1; rw [hT]; refine fWv_take ?_; rw [show P3 (1 + 1) w = P3 2 w from rfl, hN2]; unfold fWv; rw [hMw w h0 (by omega)]; exact hww w h0 h1
  refine fV_callV (n := 0) (k := 1) (K := 0) (As := []) (rest := []) (pc' := 18) G (mX0_sortForPutting l Γ hN I5 P3 fSc_1 hpN (by rw [hT1]; exact hv1) hTw) kcX3_putAll_135 (by omega) rfl rfl rfl rfl (Nat.le_of_ble_eq_true rfl) (Nat.zero_le _) (Nat.zero_le _) dX3_putAll_15 rfl (fun v6 I7 P8 h9 => ?_)
  obtain ⟨h9v, eP8, hKo, hso⟩ := h9
  refine fV_st (st' := []) (by rw [h9v]; rfl) ?_
  rw [eP8]
  obtain ⟨o, hoo⟩ : ∃ o : Int → Int, o = I7 6 := ⟨_, rfl⟩
  have hO : sOrd (fun w => I (P 2 w) 1) (fun w => I (P 2 w) 2) (I 1 1) o := by rw [hoo]; rw [hT1] at hso; refine sOrd_c (fun w w0 w1 => ?_) hso; (try dsimp only); rw [show P3 (1 + 1) w = P3 2 w from rfl, hT, xTake_k (by decide), xTake_k (by decide), hN2, hMw w w0 (by omega)]; exact ⟨rfl, rfl⟩
  refine fV_iconst (pc' := 19) G dX3_putAll_18 rfl ?_
  refine fV_istore_n (lv' := [(1, .int (i32 0)), (0, .ref (Γ.1 0))]) (pc' := 20) G dX3_putAll_19 rfl (by decide) rfl rfl ?_
  have lp : ∀ (z : Nat) (i : Int) (J : fM), 0 ≤ i ∧ i ≤ I 1 1 → xEq (xPutN I5 P3 o i.toNat) J → J 6 = o → J 1 = I 1 → J 3 = I 3 → (∀ w : Int, 0 ≤ w → w < J 1 1 → fWv J (P3 (1 + 1) w)) → ((I 1 1 - i).toNat) = z → fV p l e rmX3_putAll s m args below meth c (MQ below (fQ Γ N (fun v J Q => v = some (.int (i32 (xCnt J Q))) ∧ ∃ M N o, xRec I P M N ∧ sOrd (fun w => I (P 2 w) 1) (fun w => I (P 2 w) 2) (I 1 1) o ∧ xEq (xPutN (xTake M N 1 (I 1 1)) N o (I 1 1).toNat) J ∧ Q = N)) args s 0 0 (fA Γ N)) (fA Γ N) Γ N 2 0 0 J P3 20 [(0, .ref (Γ.1 0)), (1, .int (i32 i))] [] := by
    intro z
    induction z using Nat.strongRecOn with
    | _ z ih_lp =>
      intro i J hi hX hJ6 hJ1 hJ3 hJw hz_lp
      have hJv : fSv J 1 := by unfold fSv; rw [hJ1, show (1 + 2 : Nat) = 3 from rfl, hJ3]; exact hv
      refine fV_iload_n (pc' := 21) G 1 dX3_putAll_20 rfl rfl rfl ?_
      refine fV_aload_n (pc' := 22) G 0 dX3_putAll_21 rfl rfl rfl ?_
      refine fV_get (K := 3) (v := .ref (Γ.1 1)) (pc' := 25) G kfX3_putAll_10 (by omega) rfl rfl rfl dX3_putAll_22 rfl ?_
      refine fV_get (K := 0) (v := .int (i32 (J 1 1))) (pc' := 28) G kfX3_putAll_53 (by omega) rfl rfl rfl dX3_putAll_25 rfl ?_
      refine fV_top (b := I 1 1) (by rw [hJ1]) ?_
      refine fV_icmp_ge (tgt := 53) (pc' := 31) G dX3_putAll_28 (by decide) rfl (by omega) (by omega) (fun c110 => ?_) (fun c110 => ?_)
      · refine fV_aload_n (pc' := 54) G 0 dX3_putAll_53 rfl rfl rfl ?_
        refine fV_get (K := 3) (v := .ref (Γ.1 1)) (pc' := 57) G kfX3_putAll_10 (by omega) rfl rfl rfl dX3_putAll_54 rfl ?_
        refine fV_callVf (st' := [.int (i32 (xCnt J P3))]) (n := 0) (k := 1) (K := 0) (As := []) (rest := []) (pc' := 60) G (mX0_countPut l Γ hN J P3 fSc_1 hJv hpN hJw) kcX3_putAll_128 (by omega) rfl rfl rfl rfl (Nat.le_of_ble_eq_true rfl) (Nat.zero_le _) (Nat.zero_le _) dX3_putAll_57 rfl rfl ?_
        refine fV_iret G dX3_putAll_60 ?_
        exact ⟨rfl, I2, P3, o, hrec, hO, by rw [← hT, show I 1 1 = i by omega]; exact hX, rfl⟩
      · refine fV_aload_n (pc' := 32) G 0 dX3_putAll_31 rfl rfl rfl ?_
        refine fV_get (K := 3) (v := .ref (Γ.1 1)) (pc' := 35) G kfX3_putAll_10 (by omega) rfl rfl rfl dX3_putAll_32 rfl ?_
        refine fV_aload_n (pc' := 36) G 0 dX3_putAll_35 rfl rfl rfl ?_
        refine fV_get (K := 3) (v := .ref (Γ.1 1)) (pc' := 39) G kfX3_putAll_10 (by omega) rfl rfl rfl dX3_putAll_36 rfl ?_
        refine fV_get (K := 0) (v := .ref (Γ.1 6)) (pc' := 42) G kfX3_putAll_138 (by omega) rfl rfl rfl dX3_putAll_39 rfl ?_
        refine fV_iload_n (pc' := 43) G 1 dX3_putAll_42 rfl rfl rfl ?_
        refine fV_iald (K := 5) (n := 12) (pc' := 44) G (by omega) rfl (fun _ _ => rfl) (by decide) (by omega) dX3_putAll_43 rfl ?_
        refine fV_top (b := o i) (by rw [hJ6]) ?_
        have hoi := hO.1 i (by omega) (by omega)
        refine fV_callV (n := 1) (k := 1) (K := 0) (As := [.int (i32 (o i))]) (rest := []) (pc' := 47) G (mX0_putAtFirstPlace l Γ hN J P3 fSc_1 hJv hpN hJw (o i) (by rw [hJ1]; exact hoi)) kcX3_putAll_141 (by omega) rfl rfl rfl rfl (Nat.le_of_ble_eq_true rfl) (Nat.zero_le _) (Nat.zero_le _) dX3_putAll_44 rfl (fun v111 I112 P113 h114 => ?_)
        obtain ⟨h114v, eP113, htE⟩ := h114
        refine fV_st (st' := []) (by rw [h114v]; rfl) ?_
        rw [eP113]
        obtain ⟨hK1, hK3, hK6, hKw⟩ := place_step hpN (by omega) htE
        refine fV_iinc (lv' := [(1, .int (i32 (i + 1))), (0, .ref (Γ.1 0))]) (pc' := 50) G 1 dX3_putAll_47 rfl (by decide) rfl rfl ?_
        refine fV_goto (tgt := 20) G dX3_putAll_50 (by decide) ?_
        refine fV_lv (lv' := [(0, .ref (Γ.1 0)), (1, .int (i32 (i + 1)))]) [1, 0] rfl ?_
        exact ih_lp _ (by omega) (i + 1) I112 (by omega) (by rw [xPutN_s (by omega)]; exact xEq_tr (xEq_place hpN (by omega) (by rw [← hX 1 (by decide) (by decide) (by decide), hJ1]; omega) hX) (xEq_t htE)) (by rw [hK6]; exact hJ6) (by rw [hK1]; exact hJ1) (by rw [hK3]; exact hJ3) (fun w h0 h1 => by rw [hK1] at h1; rw [hJ1] at h1; rw [show P3 (1 + 1) w = P3 2 w from rfl]; unfold fWv; rw [hKw w h0 (by omega)]; exact xPlace_wv (hJw (o i) (by omega) (by rw [hJ1]; omega)).1 (hJw w h0 (by rw [hJ1]; exact h1))) rfl
  refine fV_lv (lv' := [(0, .ref (Γ.1 0)), (1, .int (i32 0))]) [1, 0] rfl ?_
  exact lp _ 0 I7 (by omega) (fun a h1 h2 h3 => hKo a (by omega)) (hoo.symm) (by rw [hKo 1 (by decide)]; exact hT1) (by rw [hKo 3 (by decide)]; exact hT3) (fun w h0 h1 => by rw [hKo 1 (by decide)] at h1; have h9 := hTw w h0 h1; unfold fWv; rw [hKo (P3 (1 + 1) w) (by have := (fPs_w fSc_1 hpN (w := w) h0 (by rw [hT1] at h1; omega)).2.1; intro z; rw [z] at this; cases this)]; exact h9) rfl
