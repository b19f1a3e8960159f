/-! CONTRACTS 15: the reference's put, earliest, lanes (rows laid by wip/whole/gen/con15.py) -/
set_option maxHeartbeats 4000000 in
set_option maxRecDepth 100000 in
theorem mX4_put (l : Launch) (Γ : fG) {N : Nat} (hN : 220 ≤ N) (I : fM) (P : fN) (ho : mOk I) (w la co : Int) (h_w : -2147483648 ≤ w ∧ w ≤ 2147483647) (h_la : -2147483648 ≤ la ∧ la ≤ 2147483647) (h_co : -2147483648 ≤ co ∧ co ≤ 2147483647) : fMet l yX4_put wsX4_put rmX4_put Γ N [.ref (Γ.1 214), .int (i32 w), .int (i32 la), .int (i32 co)] I P (fun v J Q => (mPl I w la co ∧ mMA (rLay (I 215) w la co) w = false ∧ v = some (.int (i32 (mCnt (J 215)))) ∧ zEq (mLay (mAct I) w la co) J ∧ Q = P) ∨ (mPl I w la co ∧ mMA (rLay (I 215) w la co) w = true ∧ v = some (.int (i32 (-12))) ∧ zEq I J ∧ Q = P) ∨ (¬ mPl I w la co ∧ v = some (.int (i32 (-11))) ∧ J = I ∧ Q = P)) := by
  refine fMet_of (own := RX4) (cc := cX4_put) (maxL := 5) (ret := (some .int)) rfl (by decide +kernel) rfl (Nat.le_of_ble_eq_true rfl) ?_
  intro p e s m args below meth c G
  obtain ⟨hm, hwm, hth, hsm, hle⟩ := id ho
  obtain ⟨hm1, hm2, hm3, hm4⟩ := id hm
  refine fV_lv (lv' := [(0, .ref (Γ.1 214)), (1, .int (i32 w)), (2, .int (i32 la)), (3, .int (i32 co))]) [0, 1, 2, 3] rfl ?_
  refine fV_aload_n (pc' := 1) G 0 dX4_put_0 rfl rfl rfl ?_
  refine fV_iconst (pc' := 2) G dX4_put_1 rfl ?_
  refine fV_put (K := 4) (jj := 0) (x := 0) (v := .int (i32 0)) (ty := .int) (pc' := 5) G kfX4_put_26 (by omega) rfl rfl rfl kp4_0 rfl rfl (Nat.le_of_ble_eq_true rfl) dX4_put_2 rfl (fun I1 eI1 => ?_)
  refine fV_mem (I' := I) (P' := P) (by rw [eI1]; exact fup_id hth) rfl ?_
  refine fV_aload_n (pc' := 6) G 0 dX4_put_5 rfl rfl rfl ?_
  refine fV_iload_n (pc' := 7) G 1 dX4_put_6 rfl rfl rfl ?_
  refine fV_iload_n (pc' := 8) G 2 dX4_put_7 rfl rfl rfl ?_
  refine fV_iload_n (pc' := 9) G 3 dX4_put_8 rfl rfl rfl ?_
  refine fV_callVf (st' := [.int (i32 (fB (decide (mPl I w la co))))]) (n := 3) (k := 214) (K := 4) (As := [.int (i32 w), .int (i32 la), .int (i32 co)]) (rest := []) (pc' := 12) G (mX4_isPlace l Γ hN I P ho w la co (by omega) (by omega) (by omega)) kcX4_put_202 (by omega) rfl rfl rfl rfl (Nat.le_of_ble_eq_true rfl) (Nat.zero_le _) (Nat.zero_le _) dX4_put_9 rfl rfl ?_
  refine fV_ifne_b (tgt := 18) (pc' := 15) G dX4_put_12 (by decide) rfl (fun c2 => ?_) (fun c2 => ?_)
  · have d2 : (mPl I w la co) := of_decide_eq_true c2
    have hpl : mPl I w la co := of_decide_eq_true c2
    refine fV_aload_n (pc' := 19) G 0 dX4_put_18 rfl rfl rfl ?_
    obtain ⟨I3, eI3⟩ : ∃ J9 : fM, J9 = fcpy I 215 0 216 0 241 := ⟨_, rfl⟩
    refine fV_callVf (I' := I3) (st' := []) (n := 0) (k := 214) (K := 4) (As := []) (rest := []) (pc' := 22) G (by rw [eI3]; exact mX4_hold l Γ hN I P) kcX4_put_193 (by omega) rfl rfl rfl rfl (Nat.le_of_ble_eq_true rfl) (Nat.zero_le _) (Nat.zero_le _) dX4_put_19 rfl rfl ?_
    refine fV_aload_n (pc' := 23) G 0 dX4_put_22 rfl rfl rfl ?_
    refine fV_iload_n (pc' := 24) G 1 dX4_put_23 rfl rfl rfl ?_
    refine fV_iload_n (pc' := 25) G 2 dX4_put_24 rfl rfl rfl ?_
    refine fV_iload_n (pc' := 26) G 3 dX4_put_25 rfl rfl rfl ?_
    obtain ⟨I4, eI4⟩ : ∃ J9 : fM, J9 = mLay I3 w la co := ⟨_, rfl⟩
    refine fV_callVf (I' := I4) (st' := []) (n := 3) (k := 214) (K := 4) (As := [.int (i32 w), .int (i32 la), .int (i32 co)]) (rest := []) (pc' := 29) G (by rw [eI4]; exact mX4_lay l Γ hN I3 P w (by omega) la co) kcX4_put_205 (by omega) rfl rfl rfl rfl (Nat.le_of_ble_eq_true rfl) (Nat.zero_le _) (Nat.zero_le _) dX4_put_26 rfl rfl ?_
    have hokI : mOkr (I 215) := mOkr_of hm hwm
    have hr2 : I4 215 = (rLay (I 215) w la co) := by rw [eI4, mLay_row, eI3, fcpy_ne (by decide)]
    have hok2 : mOkr (rLay (I 215) w la co) := mOkr_lay hokI (by omega) (Or.inr ⟨hpl.2.1, hpl.2.2.1, hpl.2.2.2⟩)
    have hwn2 : w < (rLay (I 215) w la co) 0 := by rw [rLay_o (by omega) (by omega)]; omega
    have h26 : ∀ b, 0 ≤ b → b < 241 → I4 216 b = I 215 b := fun b b0 b1 => by rw [eI4, mLay_o (by decide), eI3, fcpy_at (by omega)]; congr 1; omega
    have h2o : ∀ a : Nat, a ≠ 215 → a ≠ 216 → I4 a = I a := fun a a1 a2 => by rw [eI4, mLay_o a1, eI3, fcpy_ne a2]
    refine fV_aload_n (pc' := 30) G 0 dX4_put_29 rfl rfl rfl ?_
    refine fV_iload_n (pc' := 31) G 1 dX4_put_30 rfl rfl rfl ?_
    refine fV_callVf (st' := [.int (i32 (fB (mMA (I4 215) w)))]) (n := 1) (k := 214) (K := 4) (As := [.int (i32 w)]) (rest := []) (pc' := 34) G (mX4_meetsAny l Γ hN I4 P (mOkr_sv hr2 hok2) (mOkr_wv hr2 hok2) w (by omega) (by rw [hr2]; exact hwn2)) kcX4_put_208 (by omega) rfl rfl rfl rfl (Nat.le_of_ble_eq_true rfl) (Nat.zero_le _) (Nat.zero_le _) dX4_put_31 rfl rfl ?_
    refine fV_st (st' := [.int (i32 (fB (mMA (rLay (I 215) w la co) w)))]) (by rw [hr2]) ?_
    refine fV_istore (lv' := [(4, .int (i32 (fB (mMA (rLay (I 215) w la co) w)))), (0, .ref (Γ.1 214)), (1, .int (i32 w)), (2, .int (i32 la)), (3, .int (i32 co))]) (pc' := 36) G dX4_put_34 (by decide) rfl rfl ?_
    refine fV_aload_n (pc' := 37) G 1 dX4_put_36 rfl rfl rfl ?_
    obtain ⟨I5, eI5⟩ : ∃ J9 : fM, J9 = fxch I4 241 := ⟨_, rfl⟩
    refine fV_callVf (I' := I5) (st' := []) (n := 0) (k := 214) (K := 4) (As := []) (rest := []) (pc' := 40) G (by rw [eI5]; exact mX4_exchange l Γ hN I4 P) kcX4_put_199 (by omega) rfl rfl rfl rfl (Nat.le_of_ble_eq_true rfl) (Nat.zero_le _) (Nat.zero_le _) dX4_put_37 rfl rfl ?_
    have hz3 : zEq I I5 := by rw [eI5]; exact fx_back h26 (fun b hb => by rw [hr2, rLay_o (by omega) (by omega)]) h2o
    refine fV_iload (pc' := 42) G 0 dX4_put_40 rfl rfl ?_
    refine fV_ifeq_b (tgt := 48) (pc' := 45) G dX4_put_42 (by decide) rfl (fun c6 => ?_) (fun c6 => ?_)
    · have hmet := c6
      refine fV_aload_n (pc' := 49) G 1 dX4_put_48 rfl rfl rfl ?_
      obtain ⟨I7, eI7⟩ : ∃ J9 : fM, J9 = mAct I5 := ⟨_, rfl⟩
      refine fV_callVf (I' := I7) (st' := []) (n := 0) (k := 214) (K := 4) (As := []) (rest := []) (pc' := 52) G (by rw [eI7]; exact mX4_act l Γ hN I5 P (by rw [show I5 214 = I 214 from hz3 214 (by decide) (by decide)]; exact hsm)) kcX4_put_96 (by omega) rfl rfl rfl rfl (Nat.le_of_ble_eq_true rfl) (Nat.zero_le _) (Nat.zero_le _) dX4_put_49 rfl rfl ?_
      refine fV_aload_n (pc' := 53) G 1 dX4_put_52 rfl rfl rfl ?_
      refine fV_iload_n (pc' := 54) G 2 dX4_put_53 rfl rfl rfl ?_
      refine fV_iload_n (pc' := 55) G 3 dX4_put_54 rfl rfl rfl ?_
      refine fV_iload_n (pc' := 56) G 4 dX4_put_55 rfl rfl rfl ?_
      obtain ⟨I8, eI8⟩ : ∃ J9 : fM, J9 = mLay I7 w la co := ⟨_, rfl⟩
      refine fV_callVf (I' := I8) (st' := []) (n := 3) (k := 214) (K := 4) (As := [.int (i32 w), .int (i32 la), .int (i32 co)]) (rest := []) (pc' := 59) G (by rw [eI8]; exact mX4_lay l Γ hN I7 P w (by omega) la co) kcX4_put_205 (by omega) rfl rfl rfl rfl (Nat.le_of_ble_eq_true rfl) (Nat.zero_le _) (Nat.zero_le _) dX4_put_56 rfl rfl ?_
      have hr5 : I8 215 = (rLay (I 215) w la co) := by rw [eI8, mLay_row, eI7, mAct_o (by decide) (by decide), hz3 215 (by decide) (by decide)]
      refine fV_aload_n (pc' := 60) G 1 dX4_put_59 rfl rfl rfl ?_
      refine fV_callVf (st' := [.int (i32 (mCnt (I8 215)))]) (n := 0) (k := 214) (K := 4) (As := []) (rest := []) (pc' := 63) G (mX4_putMany l Γ hN I8 P (mOkr_sv hr5 hok2) (mOkr_wv hr5 hok2)) kcX4_put_211 (by omega) rfl rfl rfl rfl (Nat.le_of_ble_eq_true rfl) (Nat.zero_le _) (Nat.zero_le _) dX4_put_60 rfl rfl ?_
      refine fV_iret G dX4_put_63 ?_
      exact Or.inl ⟨hpl, hmet, rfl, by rw [eI8, eI7]; exact zEq_lay (zEq_act hz3), rfl⟩
    · have hmet := c6
      refine fV_bipush (n := -12) (pc' := 47) G dX4_put_45 rfl rfl ?_
      refine fV_iret G dX4_put_47 ?_
      exact Or.inr (Or.inl ⟨hpl, hmet, rfl, hz3, rfl⟩)
  · have d2 : ¬ (mPl I w la co) := of_decide_eq_false c2
    have hnpl : ¬ mPl I w la co := of_decide_eq_false c2
    refine fV_bipush (n := -11) (pc' := 17) G dX4_put_15 rfl rfl ?_
    refine fV_iret G dX4_put_17 ?_
    exact Or.inr (Or.inr ⟨hnpl, rfl, rfl, rfl⟩)
set_option maxHeartbeats 4000000 in
set_option maxRecDepth 100000 in
theorem mX4_earliest (l : Launch) (Γ : fG) {N : Nat} (hN : 220 ≤ N) (I : fM) (P : fN) (ho : mOk I) (w la co : Int) (h_w : -2147483648 ≤ w ∧ w ≤ 2147483647) (h_la : -2147483648 ≤ la ∧ la ≤ 2147483647) (h_co : -2147483648 ≤ co ∧ co ≤ 2147483647) : fMet l yX4_earliest wsX4_earliest rmX4_earliest Γ N [.ref (Γ.1 214), .int (i32 w), .int (i32 la), .int (i32 co)] I P (fun v J Q => v = some (.int (i32 (qMEar I w la co))) ∧ zEq I J ∧ Q = P) := by
  refine fMet_of (own := RX4) (cc := cX4_earliest) (maxL := 6) (ret := (some .int)) rfl (by decide +kernel) rfl (Nat.le_of_ble_eq_true rfl) ?_
  intro p e s m args below meth c G
  obtain ⟨hm, hwm, hth, hsm, hle⟩ := id ho
  obtain ⟨hm1, hm2, hm3, hm4⟩ := id hm
  refine fV_lv (lv' := [(0, .ref (Γ.1 214)), (1, .int (i32 w)), (2, .int (i32 la)), (3, .int (i32 co))]) [0, 1, 2, 3] rfl ?_
  refine fV_aload_n (pc' := 1) G 0 dX4_earliest_0 rfl rfl rfl ?_
  refine fV_iconst (pc' := 2) G dX4_earliest_1 rfl ?_
  refine fV_put (K := 4) (jj := 0) (x := 0) (v := .int (i32 0)) (ty := .int) (pc' := 5) G kfX4_earliest_26 (by omega) rfl rfl rfl kp4_0 rfl rfl (Nat.le_of_ble_eq_true rfl) dX4_earliest_2 rfl (fun I1 eI1 => ?_)
  refine fV_mem (I' := I) (P' := P) (by rw [eI1]; exact fup_id hth) rfl ?_
  refine fV_aload_n (pc' := 6) G 0 dX4_earliest_5 rfl rfl rfl ?_
  refine fV_iload_n (pc' := 7) G 1 dX4_earliest_6 rfl rfl rfl ?_
  refine fV_iload_n (pc' := 8) G 2 dX4_earliest_7 rfl rfl rfl ?_
  refine fV_iload_n (pc' := 9) G 3 dX4_earliest_8 rfl rfl rfl ?_
  refine fV_callVf (st' := [.int (i32 (fB (decide (mPl I w la co))))]) (n := 3) (k := 214) (K := 4) (As := [.int (i32 w), .int (i32 la), .int (i32 co)]) (rest := []) (pc' := 12) G (mX4_isPlace l Γ hN I P ho w la co (by omega) (by omega) (by omega)) kcX4_earliest_202 (by omega) rfl rfl rfl rfl (Nat.le_of_ble_eq_true rfl) (Nat.zero_le _) (Nat.zero_le _) dX4_earliest_9 rfl rfl ?_
  refine fV_ifne_b (tgt := 18) (pc' := 15) G dX4_earliest_12 (by decide) rfl (fun c2 => ?_) (fun c2 => ?_)
  · have d2 : (mPl I w la co) := of_decide_eq_true c2
    have hpl : mPl I w la co := of_decide_eq_true c2
    refine fV_aload_n (pc' := 19) G 0 dX4_earliest_18 rfl rfl rfl ?_
    obtain ⟨I3, eI3⟩ : ∃ J9 : fM, J9 = fcpy I 215 0 216 0 241 := ⟨_, rfl⟩
    refine fV_callVf (I' := I3) (st' := []) (n := 0) (k := 214) (K := 4) (As := []) (rest := []) (pc' := 22) G (by rw [eI3]; exact mX4_hold l Γ hN I P) kcX4_earliest_193 (by omega) rfl rfl rfl rfl (Nat.le_of_ble_eq_true rfl) (Nat.zero_le _) (Nat.zero_le _) dX4_earliest_19 rfl rfl ?_
    refine fV_aload_n (pc' := 23) G 0 dX4_earliest_22 rfl rfl rfl ?_
    refine fV_iload_n (pc' := 24) G 1 dX4_earliest_23 rfl rfl rfl ?_
    refine fV_iload_n (pc' := 25) G 2 dX4_earliest_24 rfl rfl rfl ?_
    refine fV_iload_n (pc' := 26) G 3 dX4_earliest_25 rfl rfl rfl ?_
    obtain ⟨I4, eI4⟩ : ∃ J9 : fM, J9 = mLay I3 w la co := ⟨_, rfl⟩
    refine fV_callVf (I' := I4) (st' := []) (n := 3) (k := 214) (K := 4) (As := [.int (i32 w), .int (i32 la), .int (i32 co)]) (rest := []) (pc' := 29) G (by rw [eI4]; exact mX4_lay l Γ hN I3 P w (by omega) la co) kcX4_earliest_205 (by omega) rfl rfl rfl rfl (Nat.le_of_ble_eq_true rfl) (Nat.zero_le _) (Nat.zero_le _) dX4_earliest_26 rfl rfl ?_
    have hokI : mOkr (I 215) := mOkr_of hm hwm
    have hr2 : I4 215 = (rLay (I 215) w la co) := by rw [eI4, mLay_row, eI3, fcpy_ne (by decide)]
    have hok2 : mOkr (rLay (I 215) w la co) := mOkr_lay hokI (by omega) (Or.inr ⟨hpl.2.1, hpl.2.2.1, hpl.2.2.2⟩)
    have hwn2 : w < (rLay (I 215) w la co) 0 := by rw [rLay_o (by omega) (by omega)]; omega
    have h26 : ∀ b, 0 ≤ b → b < 241 → I4 216 b = I 215 b := fun b b0 b1 => by rw [eI4, mLay_o (by decide), eI3, fcpy_at (by omega)]; congr 1; omega
    have h2o : ∀ a : Nat, a ≠ 215 → a ≠ 216 → I4 a = I a := fun a a1 a2 => by rw [eI4, mLay_o a1, eI3, fcpy_ne a2]
    refine fV_bipush (n := -19) (pc' := 31) G dX4_earliest_29 rfl rfl ?_
    refine fV_istore (lv' := [(4, .int (i32 (-19))), (0, .ref (Γ.1 214)), (1, .int (i32 w)), (2, .int (i32 la)), (3, .int (i32 co))]) (pc' := 33) G dX4_earliest_31 (by decide) rfl rfl ?_
    refine fV_aload_n (pc' := 34) G 1 dX4_earliest_33 rfl rfl rfl ?_
    refine fV_iload_n (pc' := 35) G 2 dX4_earliest_34 rfl rfl rfl ?_
    refine fV_iconst (pc' := 36) G dX4_earliest_35 rfl ?_
    refine fV_callVf (st' := [.int (i32 (I4 215 (13 + 19 * w + 0)))]) (n := 2) (k := 214) (K := 4) (As := [.int (i32 w), .int (i32 0)]) (rest := []) (pc' := 39) G (mX4_of l Γ hN I4 P w (by omega) 0 (by omega)) kcX4_earliest_37 (by omega) rfl rfl rfl rfl (Nat.le_of_ble_eq_true rfl) (Nat.zero_le _) (Nat.zero_le _) dX4_earliest_36 rfl rfl ?_
    refine fV_top (b := I 215 (13 + 19 * w + 0)) (by rw [hr2, rLay_o (by omega) (by omega)]) ?_
    have hw0 := (hwm w (by omega) (by omega)).2.1
    dsimp only [mR] at hw0
    have hFb : I 215 (13 + 19 * w + 0) ≤ mEarF I w la co ∧ mEarF I w la co ≤ 2001 := (sF_is (by omega)).1
    refine fV_istore (lv' := [(5, .int (i32 (I 215 (13 + 19 * w + 0)))), (4, .int (i32 (-19))), (0, .ref (Γ.1 214)), (1, .int (i32 w)), (2, .int (i32 la)), (3, .int (i32 co))]) (pc' := 41) G dX4_earliest_39 (by decide) rfl rfl ?_
    have lp : ∀ (z : Nat) (fo : Int) (f : Int) (q : Int) (J : fM), I 215 (13 + 19 * w + 0) ≤ f ∧ f ≤ 2001 → ((fo = -19 ∧ f ≤ mEarF I w la co) ∨ ((I 215 (13 + 19 * w + 0) ≤ fo ∧ fo ≤ 2000) ∧ mEarF I w la co = fo)) → J 215 = rTry (I 215) w q la co → (∀ a : Nat, a ≠ 215 → J a = I4 a) → ((2001 - f).toNat) = z → fV p l e rmX4_earliest s m args below meth c (MQ below (fQ Γ N (fun v J Q => v = some (.int (i32 (qMEar I w la co))) ∧ zEq I J ∧ Q = P)) args s 0 0 (fA Γ N)) (fA Γ N) Γ N 6 0 0 J P 41 [(0, .ref (Γ.1 214)), (1, .int (i32 w)), (2, .int (i32 la)), (3, .int (i32 co)), (4, .int (i32 fo)), (5, .int (i32 f))] [] := by
      intro z
      induction z using Nat.strongRecOn with
      | _ z ih_lp =>
        intro fo f q J hf hfo hJ5 hJo hz_lp
        refine fV_iload (pc' := 43) G 5 dX4_earliest_41 rfl rfl ?_
        refine fV_sipush (n := 2000) (pc' := 46) G dX4_earliest_43 rfl rfl ?_
        refine fV_icmp_gt (tgt := 87) (pc' := 49) G dX4_earliest_46 (by decide) rfl (by omega) (by decide) (fun c105 => ?_) (fun c105 => ?_)
        · refine fV_aload_n (pc' := 88) G 0 dX4_earliest_87 rfl rfl rfl ?_
          obtain ⟨I106, eI106⟩ : ∃ J9 : fM, J9 = fxch J 241 := ⟨_, rfl⟩
          refine fV_callVf (I' := I106) (st' := []) (n := 0) (k := 214) (K := 4) (As := []) (rest := []) (pc' := 91) G (by rw [eI106]; exact mX4_exchange l Γ hN J P) kcX4_earliest_199 (by omega) rfl rfl rfl rfl (Nat.le_of_ble_eq_true rfl) (Nat.zero_le _) (Nat.zero_le _) dX4_earliest_88 rfl rfl ?_
          refine fV_iload (pc' := 93) G 4 dX4_earliest_91 rfl rfl ?_
          refine fV_iret G dX4_earliest_93 ?_
          exact ⟨by unfold qMEar; rw [if_pos hpl]; congr 3; split <;> omega, by rw [eI106]; exact fx_back (fun b b0 b1 => by rw [hJo 216 (by decide)]; exact h26 b b0 b1) (fun b hb => by rw [hJ5]; unfold rTry; rw [rsv_n (by omega), rLay_o (by omega) (by omega)]) (fun a a1 a2 => by rw [hJo a a1]; exact h2o a a1 a2), rfl⟩
        · refine fV_iload (pc' := 51) G 4 dX4_earliest_49 rfl rfl ?_
          refine fV_bipush (n := -19) (pc' := 53) G dX4_earliest_51 rfl rfl ?_
          refine fV_icmp_ne (tgt := 87) (pc' := 56) G dX4_earliest_53 (by decide) rfl (by omega) (by decide) (fun c106 => ?_) (fun c106 => ?_)
          · refine fV_aload_n (pc' := 88) G 0 dX4_earliest_87 rfl rfl rfl ?_
            obtain ⟨I107, eI107⟩ : ∃ J9 : fM, J9 = fxch J 241 := ⟨_, rfl⟩
            refine fV_callVf (I' := I107) (st' := []) (n := 0) (k := 214) (K := 4) (As := []) (rest := []) (pc' := 91) G (by rw [eI107]; exact mX4_exchange l Γ hN J P) kcX4_earliest_199 (by omega) rfl rfl rfl rfl (Nat.le_of_ble_eq_true rfl) (Nat.zero_le _) (Nat.zero_le _) dX4_earliest_88 rfl rfl ?_
            refine fV_iload (pc' := 93) G 4 dX4_earliest_91 rfl rfl ?_
            refine fV_iret G dX4_earliest_93 ?_
            exact ⟨by unfold qMEar; rw [if_pos hpl]; congr 3; split <;> omega, by rw [eI107]; exact fx_back (fun b b0 b1 => by rw [hJo 216 (by decide)]; exact h26 b b0 b1) (fun b hb => by rw [hJ5]; unfold rTry; rw [rsv_n (by omega), rLay_o (by omega) (by omega)]) (fun a a1 a2 => by rw [hJo a a1]; exact h2o a a1 a2), rfl⟩
          · refine fV_aload_n (pc' := 57) G 0 dX4_earliest_56 rfl rfl rfl ?_
            refine fV_iload_n (pc' := 58) G 1 dX4_earliest_57 rfl rfl rfl ?_
            refine fV_iconst (pc' := 59) G dX4_earliest_58 rfl ?_
            refine fV_iload (pc' := 61) G 5 dX4_earliest_59 rfl rfl ?_
            obtain ⟨I107, eI107⟩ : ∃ J9 : fM, J9 = fup J 215 (13 + 19 * w + 0) f := ⟨_, rfl⟩
            refine fV_callVf (I' := I107) (st' := []) (n := 3) (k := 214) (K := 4) (As := [.int (i32 w), .int (i32 0), .int (i32 f)]) (rest := []) (pc' := 64) G (by rw [eI107]; exact mX4_set l Γ hN J P w (by omega) 0 (by omega) f) kcX4_earliest_81 (by omega) rfl rfl rfl rfl (Nat.le_of_ble_eq_true rfl) (Nat.zero_le _) (Nat.zero_le _) dX4_earliest_61 rfl rfl ?_
            have hr9 : I107 215 = rTry (I 215) w f la co := by rw [eI107, fup_r, hJ5, rTry_up]
            have hok9 : mOkr (rTry (I 215) w f la co) := mOkr_first hok2 (by omega) (by omega)
            have hwn9 : w < rTry (I 215) w f la co 0 := by unfold rTry; rw [rsv_n (by omega), rLay_o (by omega) (by omega)]; omega
            have hfe : f ≤ mEarF I w la co := by omega
            refine fV_aload_n (pc' := 65) G 0 dX4_earliest_64 rfl rfl rfl ?_
            refine fV_iload_n (pc' := 66) G 1 dX4_earliest_65 rfl rfl rfl ?_
            refine fV_callVf (st' := [.int (i32 (fB (mMA (I107 215) w)))]) (n := 1) (k := 214) (K := 4) (As := [.int (i32 w)]) (rest := []) (pc' := 69) G (mX4_meetsAny l Γ hN I107 P (mOkr_sv hr9 hok9) (mOkr_wv hr9 hok9) w (by omega) (by rw [hr9]; exact hwn9)) kcX4_earliest_208 (by omega) rfl rfl rfl rfl (Nat.le_of_ble_eq_true rfl) (Nat.zero_le _) (Nat.zero_le _) dX4_earliest_66 rfl rfl ?_
            refine fV_st (st' := [.int (i32 (fB (mMA (rTry (I 215) w f la co) w)))]) (by rw [hr9]) ?_
            refine fV_ifeq_b (tgt := 77) (pc' := 72) G dX4_earliest_69 (by decide) rfl (fun c108 => ?_) (fun c108 => ?_)
            · have hfn : ((f = -19 ∧ f + 1 ≤ mEarF I w la co) ∨ ((I 215 (13 + 19 * w + 0) ≤ f ∧ f ≤ 2000) ∧ mEarF I w la co = f)) := Or.inr ⟨by omega, isF_hit (sF_is (by omega)) (by omega) hfe c108⟩
              refine fV_iload (pc' := 79) G 5 dX4_earliest_77 rfl rfl ?_
              refine fV_istore (lv' := [(4, .int (i32 f)), (0, .ref (Γ.1 214)), (1, .int (i32 w)), (2, .int (i32 la)), (3, .int (i32 co)), (5, .int (i32 f))]) (pc' := 81) G dX4_earliest_79 (by decide) rfl rfl ?_
              refine fV_iinc (lv' := [(5, .int (i32 (f + 1))), (4, .int (i32 f)), (0, .ref (Γ.1 214)), (1, .int (i32 w)), (2, .int (i32 la)), (3, .int (i32 co))]) (pc' := 84) G 5 dX4_earliest_81 rfl (by decide) rfl rfl ?_
              refine fV_goto (tgt := 41) G dX4_earliest_84 (by decide) ?_
              refine fV_lv (lv' := [(0, .ref (Γ.1 214)), (1, .int (i32 w)), (2, .int (i32 la)), (3, .int (i32 co)), (4, .int (i32 f)), (5, .int (i32 (f + 1)))]) [2, 3, 4, 5, 1, 0] rfl ?_
              exact ih_lp _ (by omega) f (f + 1) f I107 (by omega) hfn hr9 (fun a ha => by rw [eI107, fup_ne ha]; exact hJo a ha) rfl
            · have hfn : (((-19 : Int) = -19 ∧ f + 1 ≤ mEarF I w la co) ∨ ((I 215 (13 + 19 * w + 0) ≤ -19 ∧ (-19 : Int) ≤ 2000) ∧ mEarF I w la co = -19)) := Or.inl ⟨rfl, isF_step (sF_is (by omega)) hfe (by omega) (fun z => by rw [c108] at z; cases z)⟩
              refine fV_bipush (n := -19) (pc' := 74) G dX4_earliest_72 rfl rfl ?_
              refine fV_goto (tgt := 79) G dX4_earliest_74 (by decide) ?_
              refine fV_istore (lv' := [(4, .int (i32 (-19))), (0, .ref (Γ.1 214)), (1, .int (i32 w)), (2, .int (i32 la)), (3, .int (i32 co)), (5, .int (i32 f))]) (pc' := 81) G dX4_earliest_79 (by decide) rfl rfl ?_
              refine fV_iinc (lv' := [(5, .int (i32 (f + 1))), (4, .int (i32 (-19))), (0, .ref (Γ.1 214)), (1, .int (i32 w)), (2, .int (i32 la)), (3, .int (i32 co))]) (pc' := 84) G 5 dX4_earliest_81 rfl (by decide) rfl rfl ?_
              refine fV_goto (tgt := 41) G dX4_earliest_84 (by decide) ?_
              refine fV_lv (lv' := [(0, .ref (Γ.1 214)), (1, .int (i32 w)), (2, .int (i32 la)), (3, .int (i32 co)), (4, .int (i32 (-19))), (5, .int (i32 (f + 1)))]) [2, 3, 4, 5, 1, 0] rfl ?_
              exact ih_lp _ (by omega) (-19) (f + 1) f I107 (by omega) hfn hr9 (fun a ha => by rw [eI107, fup_ne ha]; exact hJo a ha) rfl
    refine fV_lv (lv' := [(0, .ref (Γ.1 214)), (1, .int (i32 w)), (2, .int (i32 la)), (3, .int (i32 co)), (4, .int (i32 (-19))), (5, .int (i32 (I 215 (13 + 19 * w + 0))))]) [2, 3, 4, 5, 1, 0] rfl ?_
    exact lp _ (-19) (I 215 (13 + 19 * w + 0)) (I 215 (13 + 19 * w + 0)) I4 (by omega) (Or.inl ⟨rfl, hFb.1⟩) (by rw [hr2]; exact rTry_0.symm) (fun _ _ => rfl) rfl
  · have d2 : ¬ (mPl I w la co) := of_decide_eq_false c2
    have hnpl : ¬ mPl I w la co := of_decide_eq_false c2
    refine fV_bipush (n := -11) (pc' := 17) G dX4_earliest_15 rfl rfl ?_
    refine fV_iret G dX4_earliest_17 ?_
    exact ⟨by unfold qMEar; rw [if_neg hnpl], zEq_r I, rfl⟩
set_option maxHeartbeats 4000000 in
set_option maxRecDepth 100000 in
theorem mX4_nextWord (l : Launch) (Γ : fG) {N : Nat} (hN : 220 ≤ N) (I : fM) (P : fN) (hm : mSv I) (hwm : ∀ w : Int, 0 ≤ w → w < I 215 0 → mWv (mR I w)) (hz : ∀ j : Int, 0 ≤ j → j < I 215 0 → I 219 j = 0 ∨ I 219 j = 1) : fMet l yX4_nextWord wsX4_nextWord rmX4_nextWord Γ N [.ref (Γ.1 214)] I P (fun v J Q => ∃ r : Int, v = some (.int (i32 r)) ∧ sNext (fun w => I 215 (13 + 19 * w + 6)) (fun w => I 215 (13 + 19 * w + 0)) (I 219) (I 215 0) r ∧ J = I ∧ Q = P) := by
  refine fMet_of (own := RX4) (cc := cX4_nextWord) (maxL := 4) (ret := (some .int)) rfl (by decide +kernel) rfl (Nat.le_of_ble_eq_true rfl) ?_
  intro p e s m args below meth c G
  obtain ⟨hm1, hm2, hm3, hm4⟩ := id hm
  refine fV_lv (lv' := [(0, .ref (Γ.1 214))]) [0] rfl ?_
  refine fV_bipush (n := -19) (pc' := 2) G dX4_nextWord_0 rfl rfl ?_
  refine fV_istore_n (lv' := [(1, .int (i32 (-19))), (0, .ref (Γ.1 214))]) (pc' := 3) G dX4_nextWord_2 rfl (by decide) rfl rfl ?_
  refine fV_iconst (pc' := 4) G dX4_nextWord_3 rfl ?_
  refine fV_istore_n (lv' := [(2, .int (i32 0)), (1, .int (i32 (-19))), (0, .ref (Γ.1 214))]) (pc' := 5) G dX4_nextWord_4 rfl (by decide) rfl rfl ?_
  have lp : ∀ (z : Nat) (k : Int) (best : Int), 0 ≤ k ∧ k ≤ I 215 0 → sNext (fun w => I 215 (13 + 19 * w + 6)) (fun w => I 215 (13 + 19 * w + 0)) (I 219) k best → ((I 215 0 - k).toNat) = z → fV p l e rmX4_nextWord s m args below meth c (MQ below (fQ Γ N (fun v J Q => ∃ r : Int, v = some (.int (i32 r)) ∧ sNext (fun w => I 215 (13 + 19 * w + 6)) (fun w => I 215 (13 + 19 * w + 0)) (I 219) (I 215 0) r ∧ J = I ∧ Q = P)) args s 0 0 (fA Γ N)) (fA Γ N) Γ N 4 0 0 I P 5 [(0, .ref (Γ.1 214)), (1, .int (i32 best)), (2, .int (i32 k))] [] := by
    intro z
    induction z using Nat.strongRecOn with
    | _ z ih_lp =>
      intro k best hk hb hz_lp
      have hbb := sNext_b hb (by omega)
      refine fV_iload_n (pc' := 6) G 2 dX4_nextWord_5 rfl rfl rfl ?_
      refine fV_aload_n (pc' := 7) G 0 dX4_nextWord_6 rfl rfl rfl ?_
      refine fV_get (K := 4) (v := .ref (Γ.1 215)) (pc' := 10) G kfX4_nextWord_7 (by omega) rfl rfl rfl dX4_nextWord_7 rfl ?_
      refine fV_iconst (pc' := 11) G dX4_nextWord_10 rfl ?_
      refine fV_iald (K := 8) (n := 241) (pc' := 12) G (by omega) rfl (fun _ _ => rfl) (by decide) (by omega) dX4_nextWord_11 rfl ?_
      refine fV_icmp_ge (tgt := 99) (pc' := 15) G dX4_nextWord_12 (by decide) rfl (by omega) (by omega) (fun c101 => ?_) (fun c101 => ?_)
      · refine fV_iload_n (pc' := 100) G 1 dX4_nextWord_99 rfl rfl rfl ?_
        refine fV_iret G dX4_nextWord_100 ?_
        exact ⟨best, rfl, by rw [show I 215 0 = k by omega]; exact hb, rfl, rfl⟩
      · have hzk := hz k (by omega) (by omega)
        have hwk := hwm k (by omega) (by omega)
        obtain ⟨hr1, hr2, hr3, hr4, hr5, hr6, hr7, hr8⟩ := id hwk
        dsimp only [mR] at hr1 hr2 hr3 hr4 hr5 hr6 hr7 hr8
        refine fV_aload_n (pc' := 16) G 0 dX4_nextWord_15 rfl rfl rfl ?_
        refine fV_get (K := 4) (v := .ref (Γ.1 219)) (pc' := 19) G kfX4_nextWord_22 (by omega) rfl rfl rfl dX4_nextWord_16 rfl ?_
        refine fV_iload_n (pc' := 20) G 2 dX4_nextWord_19 rfl rfl rfl ?_
        refine fV_zald (K := 10) (n := 12) (pc' := 21) G (by omega) rfl (fun _ _ => rfl) (by decide) (by omega) dX4_nextWord_20 rfl ?_
        refine fV_if_ne (tgt := 93) (pc' := 24) G dX4_nextWord_21 (by decide) rfl (by omega) (fun c102 => ?_) (fun c102 => ?_)
        · have hbn : sNext (fun w => I 215 (13 + 19 * w + 6)) (fun w => I 215 (13 + 19 * w + 0)) (I 219) (k + 1) best := sNext_skip hb (by omega)
          refine fV_iinc (lv' := [(2, .int (i32 (k + 1))), (0, .ref (Γ.1 214)), (1, .int (i32 best))]) (pc' := 96) G 2 dX4_nextWord_93 rfl (by decide) rfl rfl ?_
          refine fV_goto (tgt := 5) G dX4_nextWord_96 (by decide) ?_
          refine fV_lv (lv' := [(0, .ref (Γ.1 214)), (1, .int (i32 best)), (2, .int (i32 (k + 1)))]) [1, 2, 0] rfl ?_
          exact ih_lp _ (by omega) (k + 1) best (by omega) hbn rfl
        · have hdk : I 219 k = 0 := by omega
          refine fV_iload_n (pc' := 25) G 1 dX4_nextWord_24 rfl rfl rfl ?_
          refine fV_bipush (n := -19) (pc' := 27) G dX4_nextWord_25 rfl rfl ?_
          refine fV_icmp_eq (tgt := 77) (pc' := 30) G dX4_nextWord_27 (by decide) rfl (by omega) (by decide) (fun c103 => ?_) (fun c103 => ?_)
          · have hah : best = -19 ∨ sAhead (fun w => I 215 (13 + 19 * w + 6)) (fun w => I 215 (13 + 19 * w + 0)) k best := Or.inl c103
            refine fV_iconst (pc' := 78) G dX4_nextWord_77 rfl ?_
            refine fV_goto (tgt := 82) G dX4_nextWord_78 (by decide) ?_
            refine fV_istore_n (lv' := [(3, .int (i32 1)), (0, .ref (Γ.1 214)), (1, .int (i32 best)), (2, .int (i32 k))]) (pc' := 83) G dX4_nextWord_82 rfl (by decide) rfl rfl ?_
            refine fV_iload_n (pc' := 84) G 0 dX4_nextWord_83 rfl rfl rfl ?_
            refine fV_if_eq (tgt := 91) (pc' := 87) G dX4_nextWord_84 (by decide) rfl (by omega) (fun c104 => ?_) (fun c104 => ?_)
            · exact absurd c104 (by decide)
            · have hbn : sNext (fun w => I 215 (13 + 19 * w + 6)) (fun w => I 215 (13 + 19 * w + 0)) (I 219) (k + 1) k := sNext_take hb (by omega) hdk hah
              refine fV_iload_n (pc' := 88) G 3 dX4_nextWord_87 rfl rfl rfl ?_
              refine fV_goto (tgt := 92) G dX4_nextWord_88 (by decide) ?_
              refine fV_istore_n (lv' := [(1, .int (i32 k)), (3, .int (i32 1)), (0, .ref (Γ.1 214)), (2, .int (i32 k))]) (pc' := 93) G dX4_nextWord_92 rfl (by decide) rfl rfl ?_
              refine fV_iinc (lv' := [(2, .int (i32 (k + 1))), (1, .int (i32 k)), (3, .int (i32 1)), (0, .ref (Γ.1 214))]) (pc' := 96) G 3 dX4_nextWord_93 rfl (by decide) rfl rfl ?_
              refine fV_goto (tgt := 5) G dX4_nextWord_96 (by decide) ?_
              refine fV_lv (lv' := [(0, .ref (Γ.1 214)), (1, .int (i32 k)), (2, .int (i32 (k + 1)))]) [3, 1, 0] rfl ?_
              exact ih_lp _ (by omega) (k + 1) k (by omega) hbn rfl
          · have hbr := sNext_r hb c103
            have hwb := hwm best (by omega) (by omega)
            obtain ⟨hq1, hq2, hq3, hq4, hq5, hq6, hq7, hq8⟩ := id hwb
            dsimp only [mR] at hq1 hq2 hq3 hq4 hq5 hq6 hq7 hq8
            refine fV_aload_n (pc' := 31) G 0 dX4_nextWord_30 rfl rfl rfl ?_
            refine fV_iload_n (pc' := 32) G 2 dX4_nextWord_31 rfl rfl rfl ?_
            refine fV_iconst (pc' := 33) G dX4_nextWord_32 rfl ?_
            refine fV_callVf (st' := [.int (i32 (I 215 (13 + 19 * k + 0)))]) (n := 2) (k := 214) (K := 4) (As := [.int (i32 k), .int (i32 0)]) (rest := []) (pc' := 36) G (mX4_of l Γ hN I P k (by omega) 0 (by omega)) kcX4_nextWord_37 (by omega) rfl rfl rfl rfl (Nat.le_of_ble_eq_true rfl) (Nat.zero_le _) (Nat.zero_le _) dX4_nextWord_33 rfl rfl ?_
            refine fV_aload_n (pc' := 37) G 0 dX4_nextWord_36 rfl rfl rfl ?_
            refine fV_iload_n (pc' := 38) G 1 dX4_nextWord_37 rfl rfl rfl ?_
            refine fV_iconst (pc' := 39) G dX4_nextWord_38 rfl ?_
            refine fV_callVf (st' := [.int (i32 (I 215 (13 + 19 * best + 0))), .int (i32 (I 215 (13 + 19 * k + 0)))]) (n := 2) (k := 214) (K := 4) (As := [.int (i32 best), .int (i32 0)]) (rest := [.int (i32 (I 215 (13 + 19 * k + 0)))]) (pc' := 42) G (mX4_of l Γ hN I P best (by omega) 0 (by omega)) kcX4_nextWord_37 (by omega) rfl rfl rfl rfl (Nat.le_of_ble_eq_true rfl) (Nat.zero_le _) (Nat.zero_le _) dX4_nextWord_39 rfl rfl ?_
            refine fV_icmp_lt (tgt := 77) (pc' := 45) G dX4_nextWord_42 (by decide) rfl (by omega) (by omega) (fun c104 => ?_) (fun c104 => ?_)
            · have hah : best = -19 ∨ sAhead (fun w => I 215 (13 + 19 * w + 6)) (fun w => I 215 (13 + 19 * w + 0)) k best := Or.inr (Or.inl c104)
              refine fV_iconst (pc' := 78) G dX4_nextWord_77 rfl ?_
              refine fV_goto (tgt := 82) G dX4_nextWord_78 (by decide) ?_
              refine fV_istore_n (lv' := [(3, .int (i32 1)), (0, .ref (Γ.1 214)), (1, .int (i32 best)), (2, .int (i32 k))]) (pc' := 83) G dX4_nextWord_82 rfl (by decide) rfl rfl ?_
              refine fV_iload_n (pc' := 84) G 0 dX4_nextWord_83 rfl rfl rfl ?_
              refine fV_if_eq (tgt := 91) (pc' := 87) G dX4_nextWord_84 (by decide) rfl (by omega) (fun c105 => ?_) (fun c105 => ?_)
              · exact absurd c105 (by decide)
              · have hbn : sNext (fun w => I 215 (13 + 19 * w + 6)) (fun w => I 215 (13 + 19 * w + 0)) (I 219) (k + 1) k := sNext_take hb (by omega) hdk hah
                refine fV_iload_n (pc' := 88) G 3 dX4_nextWord_87 rfl rfl rfl ?_
                refine fV_goto (tgt := 92) G dX4_nextWord_88 (by decide) ?_
                refine fV_istore_n (lv' := [(1, .int (i32 k)), (3, .int (i32 1)), (0, .ref (Γ.1 214)), (2, .int (i32 k))]) (pc' := 93) G dX4_nextWord_92 rfl (by decide) rfl rfl ?_
                refine fV_iinc (lv' := [(2, .int (i32 (k + 1))), (1, .int (i32 k)), (3, .int (i32 1)), (0, .ref (Γ.1 214))]) (pc' := 96) G 3 dX4_nextWord_93 rfl (by decide) rfl rfl ?_
                refine fV_goto (tgt := 5) G dX4_nextWord_96 (by decide) ?_
                refine fV_lv (lv' := [(0, .ref (Γ.1 214)), (1, .int (i32 k)), (2, .int (i32 (k + 1)))]) [3, 1, 0] rfl ?_
                exact ih_lp _ (by omega) (k + 1) k (by omega) hbn rfl
            · refine fV_aload_n (pc' := 46) G 0 dX4_nextWord_45 rfl rfl rfl ?_
              refine fV_iload_n (pc' := 47) G 2 dX4_nextWord_46 rfl rfl rfl ?_
              refine fV_iconst (pc' := 48) G dX4_nextWord_47 rfl ?_
              refine fV_callVf (st' := [.int (i32 (I 215 (13 + 19 * k + 0)))]) (n := 2) (k := 214) (K := 4) (As := [.int (i32 k), .int (i32 0)]) (rest := []) (pc' := 51) G (mX4_of l Γ hN I P k (by omega) 0 (by omega)) kcX4_nextWord_37 (by omega) rfl rfl rfl rfl (Nat.le_of_ble_eq_true rfl) (Nat.zero_le _) (Nat.zero_le _) dX4_nextWord_48 rfl rfl ?_
              refine fV_aload_n (pc' := 52) G 0 dX4_nextWord_51 rfl rfl rfl ?_
              refine fV_iload_n (pc' := 53) G 1 dX4_nextWord_52 rfl rfl rfl ?_
              refine fV_iconst (pc' := 54) G dX4_nextWord_53 rfl ?_
              refine fV_callVf (st' := [.int (i32 (I 215 (13 + 19 * best + 0))), .int (i32 (I 215 (13 + 19 * k + 0)))]) (n := 2) (k := 214) (K := 4) (As := [.int (i32 best), .int (i32 0)]) (rest := [.int (i32 (I 215 (13 + 19 * k + 0)))]) (pc' := 57) G (mX4_of l Γ hN I P best (by omega) 0 (by omega)) kcX4_nextWord_37 (by omega) rfl rfl rfl rfl (Nat.le_of_ble_eq_true rfl) (Nat.zero_le _) (Nat.zero_le _) dX4_nextWord_54 rfl rfl ?_
              refine fV_icmp_ne (tgt := 81) (pc' := 60) G dX4_nextWord_57 (by decide) rfl (by omega) (by omega) (fun c105 => ?_) (fun c105 => ?_)
              · have hke : sAhead (fun w => I 215 (13 + 19 * w + 6)) (fun w => I 215 (13 + 19 * w + 0)) best k := by unfold sAhead; (try dsimp only); omega
                refine fV_iconst (pc' := 82) G dX4_nextWord_81 rfl ?_
                refine fV_istore_n (lv' := [(3, .int (i32 0)), (0, .ref (Γ.1 214)), (1, .int (i32 best)), (2, .int (i32 k))]) (pc' := 83) G dX4_nextWord_82 rfl (by decide) rfl rfl ?_
                refine fV_iload_n (pc' := 84) G 0 dX4_nextWord_83 rfl rfl rfl ?_
                refine fV_if_eq (tgt := 91) (pc' := 87) G dX4_nextWord_84 (by decide) rfl (by omega) (fun c106 => ?_) (fun c106 => ?_)
                · have hbn : sNext (fun w => I 215 (13 + 19 * w + 6)) (fun w => I 215 (13 + 19 * w + 0)) (I 219) (k + 1) best := sNext_keep hb (by omega) hke
                  refine fV_iload_n (pc' := 92) G 2 dX4_nextWord_91 rfl rfl rfl ?_
                  refine fV_istore_n (lv' := [(1, .int (i32 best)), (3, .int (i32 0)), (0, .ref (Γ.1 214)), (2, .int (i32 k))]) (pc' := 93) G dX4_nextWord_92 rfl (by decide) rfl rfl ?_
                  refine fV_iinc (lv' := [(2, .int (i32 (k + 1))), (1, .int (i32 best)), (3, .int (i32 0)), (0, .ref (Γ.1 214))]) (pc' := 96) G 3 dX4_nextWord_93 rfl (by decide) rfl rfl ?_
                  refine fV_goto (tgt := 5) G dX4_nextWord_96 (by decide) ?_
                  refine fV_lv (lv' := [(0, .ref (Γ.1 214)), (1, .int (i32 best)), (2, .int (i32 (k + 1)))]) [3, 1, 0] rfl ?_
                  exact ih_lp _ (by omega) (k + 1) best (by omega) hbn rfl
                · exact absurd c106 (by decide)
              · refine fV_aload_n (pc' := 61) G 0 dX4_nextWord_60 rfl rfl rfl ?_
                refine fV_iload_n (pc' := 62) G 2 dX4_nextWord_61 rfl rfl rfl ?_
                refine fV_bipush (n := 6) (pc' := 64) G dX4_nextWord_62 rfl rfl ?_
                refine fV_callVf (st' := [.int (i32 (I 215 (13 + 19 * k + 6)))]) (n := 2) (k := 214) (K := 4) (As := [.int (i32 k), .int (i32 6)]) (rest := []) (pc' := 67) G (mX4_of l Γ hN I P k (by omega) 6 (by omega)) kcX4_nextWord_37 (by omega) rfl rfl rfl rfl (Nat.le_of_ble_eq_true rfl) (Nat.zero_le _) (Nat.zero_le _) dX4_nextWord_64 rfl rfl ?_
                refine fV_aload_n (pc' := 68) G 0 dX4_nextWord_67 rfl rfl rfl ?_
                refine fV_iload_n (pc' := 69) G 1 dX4_nextWord_68 rfl rfl rfl ?_
                refine fV_bipush (n := 6) (pc' := 71) G dX4_nextWord_69 rfl rfl ?_
                refine fV_callVf (st' := [.int (i32 (I 215 (13 + 19 * best + 6))), .int (i32 (I 215 (13 + 19 * k + 6)))]) (n := 2) (k := 214) (K := 4) (As := [.int (i32 best), .int (i32 6)]) (rest := [.int (i32 (I 215 (13 + 19 * k + 6)))]) (pc' := 74) G (mX4_of l Γ hN I P best (by omega) 6 (by omega)) kcX4_nextWord_37 (by omega) rfl rfl rfl rfl (Nat.le_of_ble_eq_true rfl) (Nat.zero_le _) (Nat.zero_le _) dX4_nextWord_71 rfl rfl ?_
                refine fV_icmp_le (tgt := 81) (pc' := 77) G dX4_nextWord_74 (by decide) rfl (by omega) (by omega) (fun c106 => ?_) (fun c106 => ?_)
                · have hke : sAhead (fun w => I 215 (13 + 19 * w + 6)) (fun w => I 215 (13 + 19 * w + 0)) best k := by unfold sAhead; (try dsimp only); omega
                  refine fV_iconst (pc' := 82) G dX4_nextWord_81 rfl ?_
                  refine fV_istore_n (lv' := [(3, .int (i32 0)), (0, .ref (Γ.1 214)), (1, .int (i32 best)), (2, .int (i32 k))]) (pc' := 83) G dX4_nextWord_82 rfl (by decide) rfl rfl ?_
                  refine fV_iload_n (pc' := 84) G 0 dX4_nextWord_83 rfl rfl rfl ?_
                  refine fV_if_eq (tgt := 91) (pc' := 87) G dX4_nextWord_84 (by decide) rfl (by omega) (fun c107 => ?_) (fun c107 => ?_)
                  · have hbn : sNext (fun w => I 215 (13 + 19 * w + 6)) (fun w => I 215 (13 + 19 * w + 0)) (I 219) (k + 1) best := sNext_keep hb (by omega) hke
                    refine fV_iload_n (pc' := 92) G 2 dX4_nextWord_91 rfl rfl rfl ?_
                    refine fV_istore_n (lv' := [(1, .int (i32 best)), (3, .int (i32 0)), (0, .ref (Γ.1 214)), (2, .int (i32 k))]) (pc' := 93) G dX4_nextWord_92 rfl (by decide) rfl rfl ?_
                    refine fV_iinc (lv' := [(2, .int (i32 (k + 1))), (1, .int (i32 best)), (3, .int (i32 0)), (0, .ref (Γ.1 214))]) (pc' := 96) G 3 dX4_nextWord_93 rfl (by decide) rfl rfl ?_
                    refine fV_goto (tgt := 5) G dX4_nextWord_96 (by decide) ?_
                    refine fV_lv (lv' := [(0, .ref (Γ.1 214)), (1, .int (i32 best)), (2, .int (i32 (k + 1)))]) [3, 1, 0] rfl ?_
                    exact ih_lp _ (by omega) (k + 1) best (by omega) hbn rfl
                  · exact absurd c107 (by decide)
                · have hah : best = -19 ∨ sAhead (fun w => I 215 (13 + 19 * w + 6)) (fun w => I 215 (13 + 19 * w + 0)) k best := Or.inr (by unfold sAhead; (try dsimp only); omega)
                  refine fV_iconst (pc' := 78) G dX4_nextWord_77 rfl ?_
                  refine fV_goto (tgt := 82) G dX4_nextWord_78 (by decide) ?_
                  refine fV_istore_n (lv' := [(3, .int (i32 1)), (0, .ref (Γ.1 214)), (1, .int (i32 best)), (2, .int (i32 k))]) (pc' := 83) G dX4_nextWord_82 rfl (by decide) rfl rfl ?_
                  refine fV_iload_n (pc' := 84) G 0 dX4_nextWord_83 rfl rfl rfl ?_
                  refine fV_if_eq (tgt := 91) (pc' := 87) G dX4_nextWord_84 (by decide) rfl (by omega) (fun c107 => ?_) (fun c107 => ?_)
                  · exact absurd c107 (by decide)
                  · have hbn : sNext (fun w => I 215 (13 + 19 * w + 6)) (fun w => I 215 (13 + 19 * w + 0)) (I 219) (k + 1) k := sNext_take hb (by omega) hdk hah
                    refine fV_iload_n (pc' := 88) G 3 dX4_nextWord_87 rfl rfl rfl ?_
                    refine fV_goto (tgt := 92) G dX4_nextWord_88 (by decide) ?_
                    refine fV_istore_n (lv' := [(1, .int (i32 k)), (3, .int (i32 1)), (0, .ref (Γ.1 214)), (2, .int (i32 k))]) (pc' := 93) G dX4_nextWord_92 rfl (by decide) rfl rfl ?_
                    refine fV_iinc (lv' := [(2, .int (i32 (k + 1))), (1, .int (i32 k)), (3, .int (i32 1)), (0, .ref (Γ.1 214))]) (pc' := 96) G 3 dX4_nextWord_93 rfl (by decide) rfl rfl ?_
                    refine fV_goto (tgt := 5) G dX4_nextWord_96 (by decide) ?_
                    refine fV_lv (lv' := [(0, .ref (Γ.1 214)), (1, .int (i32 k)), (2, .int (i32 (k + 1)))]) [3, 1, 0] rfl ?_
                    exact ih_lp _ (by omega) (k + 1) k (by omega) hbn rfl
  refine fV_lv (lv' := [(0, .ref (Γ.1 214)), (1, .int (i32 (-19))), (2, .int (i32 0))]) [2, 1, 0] rfl ?_
  exact lp _ 0 (-19) (by omega) (sNext_0 _ _ _) rfl
set_option maxHeartbeats 4000000 in
set_option maxRecDepth 100000 in
theorem mX4_laneOf (l : Launch) (Γ : fG) {N : Nat} (hN : 220 ≤ N) (I : fM) (P : fN) (t : Int) (ht : 0 ≤ t ∧ t < 8) : fMet l yX4_laneOf wsX4_laneOf rmX4_laneOf Γ N [.int (i32 t)] I P (fE (some (.int (i32 (sLane t)))) I P) := by
  refine fMet_of (own := RX4) (cc := cX4_laneOf) (maxL := 1) (ret := (some .int)) rfl (by decide +kernel) rfl (Nat.le_of_ble_eq_true rfl) ?_
  intro p e s m args below meth c G
  refine fV_lv (lv' := [(0, .int (i32 t))]) [0] rfl ?_
  refine fV_iload_n (pc' := 1) G 0 dX4_laneOf_0 rfl rfl rfl ?_
  refine fV_iconst (pc' := 2) G dX4_laneOf_1 rfl ?_
  refine fV_irem (pc' := 3) G dX4_laneOf_2 rfl (by omega) (by omega) ?_
  refine fV_if_ne (tgt := 14) (pc' := 6) G dX4_laneOf_3 (by decide) rfl (by omega) (fun c1 => ?_) (fun c1 => ?_)
  · refine fV_iconst (pc' := 15) G dX4_laneOf_14 rfl ?_
    refine fV_iload_n (pc' := 16) G 0 dX4_laneOf_15 rfl rfl rfl ?_
    refine fV_iconst (pc' := 17) G dX4_laneOf_16 rfl ?_
    refine fV_idiv (pc' := 18) G dX4_laneOf_17 rfl (by omega) (by omega) ?_
    refine fV_iadd (pc' := 19) G dX4_laneOf_18 rfl ?_
    refine fV_iret G dX4_laneOf_19 ?_
    exact fE_i (by have h9 : t = 0 ∨ t = 1 ∨ t = 2 ∨ t = 3 ∨ t = 4 ∨ t = 5 ∨ t = 6 ∨ t = 7 := (by omega); rcases h9 with rfl | rfl | rfl | rfl | rfl | rfl | rfl | rfl <;> first | rfl | (exfalso; omega))
  · refine fV_iconst (pc' := 7) G dX4_laneOf_6 rfl ?_
    refine fV_iload_n (pc' := 8) G 0 dX4_laneOf_7 rfl rfl rfl ?_
    refine fV_iconst (pc' := 9) G dX4_laneOf_8 rfl ?_
    refine fV_idiv (pc' := 10) G dX4_laneOf_9 rfl (by omega) (by omega) ?_
    refine fV_isub (pc' := 11) G dX4_laneOf_10 rfl ?_
    refine fV_goto (tgt := 19) G dX4_laneOf_11 (by decide) ?_
    refine fV_iret G dX4_laneOf_19 ?_
    exact fE_i (by have h9 : t = 0 ∨ t = 1 ∨ t = 2 ∨ t = 3 ∨ t = 4 ∨ t = 5 ∨ t = 6 ∨ t = 7 := (by omega); rcases h9 with rfl | rfl | rfl | rfl | rfl | rfl | rfl | rfl <;> first | rfl | (exfalso; omega))
set_option maxHeartbeats 4000000 in
set_option maxRecDepth 100000 in
theorem mX4_laysIn (l : Launch) (Γ : fG) {N : Nat} (hN : 220 ≤ N) (I : fM) (P : fN) (hok : mOkr (I 215)) (w la : Int) (hw : 0 ≤ w ∧ w < I 215 0) (hla : 0 ≤ la ∧ la ≤ 7) : fMet l yX4_laysIn wsX4_laysIn rmX4_laysIn Γ N [.ref (Γ.1 214), .int (i32 w), .int (i32 la)] I P (fE (some (.int (i32 (fB (decide (sTF (rFr (I 215) w) (40 - I 215 (13 + 19 * w + 6)) la < 81)))))) (if sTF (rFr (I 215) w) (40 - I 215 (13 + 19 * w + 6)) la < 81 then mLay I w la (sTurn (40 - I 215 (13 + 19 * w + 6)) (sTF (rFr (I 215) w) (40 - I 215 (13 + 19 * w + 6)) la)) else mOff I w) P) := by
  refine fMet_of (own := RX4) (cc := cX4_laysIn) (maxL := 8) (ret := (some .boolean)) rfl (by decide +kernel) rfl (Nat.le_of_ble_eq_true rfl) ?_
  intro p e s m args below meth c G
  obtain ⟨⟨hm1, hm2, hm3, hm4⟩, hwm⟩ := id hok
  have hw6 := (hwm w (by omega) (by omega)).1
  (try dsimp only at hw6)
  obtain ⟨mo, hmo⟩ : ∃ mo : Int, mo = (40 - I 215 (13 + 19 * w + 6)) := ⟨_, rfl⟩
  refine fV_lv (lv' := [(0, .ref (Γ.1 214)), (1, .int (i32 w)), (2, .int (i32 la))]) [0, 1, 2] rfl ?_
  refine fV_bipush (n := 40) (pc' := 2) G dX4_laysIn_0 rfl rfl ?_
  refine fV_aload_n (pc' := 3) G 0 dX4_laysIn_2 rfl rfl rfl ?_
  refine fV_iload_n (pc' := 4) G 1 dX4_laysIn_3 rfl rfl rfl ?_
  refine fV_bipush (n := 6) (pc' := 6) G dX4_laysIn_4 rfl rfl ?_
  refine fV_callVf (st' := [.int (i32 (I 215 (13 + 19 * w + 6))), .int (i32 40)]) (n := 2) (k := 214) (K := 4) (As := [.int (i32 w), .int (i32 6)]) (rest := [.int (i32 40)]) (pc' := 9) G (mX4_of l Γ hN I P w (by omega) 6 (by omega)) kcX4_laysIn_37 (by omega) rfl rfl rfl rfl (Nat.le_of_ble_eq_true rfl) (Nat.zero_le _) (Nat.zero_le _) dX4_laysIn_6 rfl rfl ?_
  refine fV_isub (pc' := 10) G dX4_laysIn_9 rfl ?_
  refine fV_top (b := mo) hmo.symm ?_
  refine fV_istore_n (lv' := [(3, .int (i32 mo)), (0, .ref (Γ.1 214)), (1, .int (i32 w)), (2, .int (i32 la))]) (pc' := 11) G dX4_laysIn_10 rfl (by decide) rfl rfl ?_
  refine fV_iload_n (pc' := 12) G 0 dX4_laysIn_11 rfl rfl rfl ?_
  refine fV_iconst (pc' := 13) G dX4_laysIn_12 rfl ?_
  refine fV_idiv (pc' := 14) G dX4_laysIn_13 rfl (by omega) (by omega) ?_
  refine fV_istore (lv' := [(4, .int (i32 (mo / 2))), (3, .int (i32 mo)), (0, .ref (Γ.1 214)), (1, .int (i32 w)), (2, .int (i32 la))]) (pc' := 16) G dX4_laysIn_14 (by decide) rfl rfl ?_
  refine fV_iconst (pc' := 17) G dX4_laysIn_16 rfl ?_
  refine fV_istore (lv' := [(5, .int (i32 0)), (4, .int (i32 (mo / 2))), (3, .int (i32 mo)), (0, .ref (Γ.1 214)), (1, .int (i32 w)), (2, .int (i32 la))]) (pc' := 19) G dX4_laysIn_17 (by decide) rfl rfl ?_
  have lp : ∀ (z : Nat) (off : Int) (J : fM), 0 ≤ off ∧ off ≤ 41 → (J = I ∨ ∃ c, J = mLay I w la c) → (if off = 0 then 0 else 2 * off - 1) ≤ sTF (rFr (I 215) w) mo la → ((41 - off).toNat) = z → fV p l e rmX4_laysIn s m args below meth c (MQ below (fQ Γ N (fE (some (.int (i32 (fB (decide (sTF (rFr (I 215) w) (40 - I 215 (13 + 19 * w + 6)) la < 81)))))) (if sTF (rFr (I 215) w) (40 - I 215 (13 + 19 * w + 6)) la < 81 then mLay I w la (sTurn (40 - I 215 (13 + 19 * w + 6)) (sTF (rFr (I 215) w) (40 - I 215 (13 + 19 * w + 6)) la)) else mOff I w) P)) args s 0 0 (fA Γ N)) (fA Γ N) Γ N 8 0 0 J P 19 [(0, .ref (Γ.1 214)), (1, .int (i32 w)), (2, .int (i32 la)), (3, .int (i32 mo)), (4, .int (i32 (mo / 2))), (5, .int (i32 off))] [] := by
    intro z
    induction z using Nat.strongRecOn with
    | _ z ih_lp =>
      intro off J hoff hJ hq hz_lp
      refine fV_iload (pc' := 21) G 5 dX4_laysIn_19 rfl rfl ?_
      refine fV_bipush (n := 40) (pc' := 23) G dX4_laysIn_21 rfl rfl ?_
      refine fV_icmp_gt (tgt := 106) (pc' := 26) G dX4_laysIn_23 (by decide) rfl (by omega) (by decide) (fun c101 => ?_) (fun c101 => ?_)
      · refine fV_aload_n (pc' := 107) G 0 dX4_laysIn_106 rfl rfl rfl ?_
        refine fV_iload_n (pc' := 108) G 1 dX4_laysIn_107 rfl rfl rfl ?_
        obtain ⟨I102, eI102⟩ : ∃ J9 : fM, J9 = mOff J w := ⟨_, rfl⟩
        refine fV_callVf (I' := I102) (st' := []) (n := 1) (k := 214) (K := 4) (As := [.int (i32 w)]) (rest := []) (pc' := 111) G (by rw [eI102]; exact mX4_takeOff l Γ hN J P w (by omega)) kcX4_laysIn_106 (by omega) rfl rfl rfl rfl (Nat.le_of_ble_eq_true rfl) (Nat.zero_le _) (Nat.zero_le _) dX4_laysIn_108 rfl rfl ?_
        refine fV_iconst (pc' := 112) G dX4_laysIn_111 rfl ?_
        refine fV_zret (b := false) G dX4_laysIn_112 ?_
        have hTF : sTF (rFr (I 215) w) mo la = 81 := by have z9 := hq; rw [if_neg (by omega)] at z9; have := (sTF_is (rFr (I 215) w) mo la).1.2; omega
        have hJf : mOff J w = mOff I w := by rcases hJ with z | ⟨c9, z⟩; rw [z]; rw [z, mOff_lay]
        exact fE_bm (by rw [← hmo, hTF]; rfl) (by rw [← hmo, hTF, if_neg (by decide), eI102]; exact hJf) rfl
      · refine fV_iconst (pc' := 27) G dX4_laysIn_26 rfl ?_
        refine fV_istore (lv' := [(6, .int (i32 0)), (0, .ref (Γ.1 214)), (1, .int (i32 w)), (2, .int (i32 la)), (3, .int (i32 mo)), (4, .int (i32 (mo / 2))), (5, .int (i32 off))]) (pc' := 29) G dX4_laysIn_27 (by decide) rfl rfl ?_
        have lpb : ∀ (z : Nat) (sd : Int) (K : fM), 0 ≤ sd ∧ sd ≤ 2 ∧ (off = 0 → sd ≤ 1) → (K = I ∨ ∃ c, K = mLay I w la c) → (if off = 0 then 0 else 2 * off - 1) + sd ≤ sTF (rFr (I 215) w) mo la → ((2 - sd).toNat) = z → fV p l e rmX4_laysIn s m args below meth c (MQ below (fQ Γ N (fE (some (.int (i32 (fB (decide (sTF (rFr (I 215) w) (40 - I 215 (13 + 19 * w + 6)) la < 81)))))) (if sTF (rFr (I 215) w) (40 - I 215 (13 + 19 * w + 6)) la < 81 then mLay I w la (sTurn (40 - I 215 (13 + 19 * w + 6)) (sTF (rFr (I 215) w) (40 - I 215 (13 + 19 * w + 6)) la)) else mOff I w) P)) args s 0 0 (fA Γ N)) (fA Γ N) Γ N 8 0 0 K P 29 [(0, .ref (Γ.1 214)), (1, .int (i32 w)), (2, .int (i32 la)), (3, .int (i32 mo)), (4, .int (i32 (mo / 2))), (5, .int (i32 off)), (6, .int (i32 sd))] [] := by
          intro z
          induction z using Nat.strongRecOn with
          | _ z ih_lpb =>
            intro sd K hsd hK hq2 hz_lpb
            obtain ⟨t, ht⟩ : ∃ t : Int, t = (if off = 0 then 0 else 2 * off - 1) + sd := ⟨_, rfl⟩
            have ht2 : (off = 0 ∧ t = sd) ∨ (off ≠ 0 ∧ t = 2 * off - 1 + sd) := by rw [ht]; split <;> omega
            have hqt : t ≤ sTF (rFr (I 215) w) mo la := by rw [ht]; exact hq2
            have hKm : (∀ c, mLay K w la c = mLay I w la c) ∧ mOff K w = mOff I w := by rcases hK with z | ⟨c9, z⟩; exact ⟨fun c => by rw [z], by rw [z]⟩; exact ⟨fun c => by rw [z, mLay_lay], by rw [z, mOff_lay]⟩
            refine fV_iload (pc' := 31) G 6 dX4_laysIn_29 rfl rfl ?_
            refine fV_iload (pc' := 33) G 5 dX4_laysIn_31 rfl rfl ?_
            refine fV_if_ne (tgt := 40) (pc' := 36) G dX4_laysIn_33 (by decide) rfl (by omega) (fun c202 => ?_) (fun c202 => ?_)
            · refine fV_iconst (pc' := 41) G dX4_laysIn_40 rfl ?_
              refine fV_icmp_ge (tgt := 100) (pc' := 44) G dX4_laysIn_41 (by decide) rfl (by omega) (by decide) (fun c203 => ?_) (fun c203 => ?_)
              · refine fV_iinc (lv' := [(5, .int (i32 (off + 1))), (0, .ref (Γ.1 214)), (1, .int (i32 w)), (2, .int (i32 la)), (3, .int (i32 mo)), (4, .int (i32 (mo / 2))), (6, .int (i32 sd))]) (pc' := 103) G 5 dX4_laysIn_100 rfl (by decide) rfl rfl ?_
                refine fV_goto (tgt := 19) G dX4_laysIn_103 (by decide) ?_
                refine fV_lv (lv' := [(0, .ref (Γ.1 214)), (1, .int (i32 w)), (2, .int (i32 la)), (3, .int (i32 mo)), (4, .int (i32 (mo / 2))), (5, .int (i32 (off + 1)))]) [1, 2, 3, 4, 5, 0] rfl ?_
                exact ih_lp _ (by omega) (off + 1) K (by omega) hK (by rw [if_neg (by omega), show 2 * (off + 1) - 1 = t by omega]; exact hqt) rfl
              · refine fV_iload (pc' := 46) G 6 dX4_laysIn_44 rfl rfl ?_
                refine fV_if_ne (tgt := 57) (pc' := 49) G dX4_laysIn_46 (by decide) rfl (by omega) (fun c204 => ?_) (fun c204 => ?_)
                · refine fV_iload (pc' := 59) G 4 dX4_laysIn_57 rfl rfl ?_
                  refine fV_iload (pc' := 61) G 5 dX4_laysIn_59 rfl rfl ?_
                  refine fV_iadd (pc' := 62) G dX4_laysIn_61 rfl ?_
                  have htb : -100 ≤ sTurn mo t ∧ sTurn mo t ≤ 200 := by unfold sTurn; split <;> omega
                  refine fV_top (b := sTurn mo t) (by unfold sTurn; split <;> omega) ?_
                  refine fV_istore (lv' := [(7, .int (i32 (sTurn mo t))), (0, .ref (Γ.1 214)), (1, .int (i32 w)), (2, .int (i32 la)), (3, .int (i32 mo)), (4, .int (i32 (mo / 2))), (5, .int (i32 off)), (6, .int (i32 sd))]) (pc' := 64) G dX4_laysIn_62 (by decide) rfl rfl ?_
                  refine fV_iload (pc' := 66) G 0 dX4_laysIn_64 rfl rfl ?_
                  refine fV_i2l (pc' := 67) G dX4_laysIn_66 rfl (by omega) ?_
                  refine fV_lconst (v := 0) (pc' := 68) G dX4_laysIn_67 rfl rfl ?_
                  refine fV_iload_n (pc' := 69) G 4 dX4_laysIn_68 rfl rfl rfl ?_
                  refine fV_i2l (pc' := 70) G dX4_laysIn_69 rfl (by omega) ?_
                  refine fV_callSf (st' := [.int (i32 (fB (sBetw (sTurn mo t) 0 mo)))]) (n := 3) (As := [.long (i64 (sTurn mo t)), .long (i64 0), .long (i64 mo)]) (rest := []) (pc' := 73) G (mX4_in l Γ hN K P (sTurn mo t) 0 mo (by omega) (by omega) (by omega)) kcX4_laysIn_33 rfl rfl (Nat.le_of_ble_eq_true rfl) (Nat.zero_le _) (Nat.zero_le _) dX4_laysIn_70 rfl rfl ?_
                  refine fV_ifeq_b (tgt := 94) (pc' := 76) G dX4_laysIn_73 (by decide) rfl (fun c205 => ?_) (fun c205 => ?_)
                  · have d205 : ¬ (0 ≤ (sTurn mo t) ∧ (sTurn mo t) ≤ mo) := of_decide_eq_false c205
                    have hq9 : t + 1 ≤ sTF (rFr (I 215) w) mo la := isF_step (sTF_is _ _ _) hqt (by omega) (fun z => d205 z.1)
                    have hK9 := hK
                    refine fV_iinc (lv' := [(6, .int (i32 (sd + 1))), (7, .int (i32 (sTurn mo t))), (0, .ref (Γ.1 214)), (1, .int (i32 w)), (2, .int (i32 la)), (3, .int (i32 mo)), (4, .int (i32 (mo / 2))), (5, .int (i32 off))]) (pc' := 97) G 7 dX4_laysIn_94 rfl (by decide) rfl rfl ?_
                    refine fV_goto (tgt := 29) G dX4_laysIn_97 (by decide) ?_
                    refine fV_lv (lv' := [(0, .ref (Γ.1 214)), (1, .int (i32 w)), (2, .int (i32 la)), (3, .int (i32 mo)), (4, .int (i32 (mo / 2))), (5, .int (i32 off)), (6, .int (i32 (sd + 1)))]) [2, 3, 4, 5, 6, 7, 0] rfl ?_
                    exact ih_lpb _ (by omega) (sd + 1) K (by omega) hK9 (by have z9 := hq9; rw [ht] at z9; rw [← Int.add_assoc]; exact z9) rfl
                  · have d205 : (0 ≤ (sTurn mo t) ∧ (sTurn mo t) ≤ mo) := of_decide_eq_true c205
                    have hin := d205
                    refine fV_aload_n (pc' := 77) G 1 dX4_laysIn_76 rfl rfl rfl ?_
                    refine fV_iload_n (pc' := 78) G 2 dX4_laysIn_77 rfl rfl rfl ?_
                    refine fV_iload_n (pc' := 79) G 3 dX4_laysIn_78 rfl rfl rfl ?_
                    refine fV_iload (pc' := 81) G 0 dX4_laysIn_79 rfl rfl ?_
                    obtain ⟨I206, eI206⟩ : ∃ J9 : fM, J9 = mLay K w la (sTurn mo t) := ⟨_, rfl⟩
                    refine fV_callVf (I' := I206) (st' := []) (n := 3) (k := 214) (K := 4) (As := [.int (i32 w), .int (i32 la), .int (i32 (sTurn mo t))]) (rest := []) (pc' := 84) G (by rw [eI206]; exact mX4_lay l Γ hN K P w (by omega) la (sTurn mo t)) kcX4_laysIn_205 (by omega) rfl rfl rfl rfl (Nat.le_of_ble_eq_true rfl) (Nat.zero_le _) (Nat.zero_le _) dX4_laysIn_81 rfl rfl ?_
                    have hI9 : I206 = mLay I w la (sTurn mo t) := by rw [eI206]; exact hKm.1 _
                    have hr9 : I206 215 = rLay (I 215) w la (sTurn mo t) := by rw [hI9, mLay_row]
                    have hok9 : mOkr (rLay (I 215) w la (sTurn mo t)) := mOkr_lay hok (by omega) (Or.inr ⟨hla, by omega, by omega⟩)
                    have hwn9 : w < rLay (I 215) w la (sTurn mo t) 0 := by rw [rLay_o (by omega) (by omega)]; omega
                    refine fV_aload_n (pc' := 85) G 1 dX4_laysIn_84 rfl rfl rfl ?_
                    refine fV_iload_n (pc' := 86) G 2 dX4_laysIn_85 rfl rfl rfl ?_
                    refine fV_callVf (st' := [.int (i32 (fB (mMA (I206 215) w)))]) (n := 1) (k := 214) (K := 4) (As := [.int (i32 w)]) (rest := []) (pc' := 89) G (mX4_meetsAny l Γ hN I206 P (mOkr_sv hr9 hok9) (mOkr_wv hr9 hok9) w (by omega) (by rw [hr9]; exact hwn9)) kcX4_laysIn_208 (by omega) rfl rfl rfl rfl (Nat.le_of_ble_eq_true rfl) (Nat.zero_le _) (Nat.zero_le _) dX4_laysIn_86 rfl rfl ?_
                    refine fV_st (st' := [.int (i32 (fB (mMA (rLay (I 215) w la (sTurn mo t)) w)))]) (by rw [hr9]) ?_
                    refine fV_ifne_b (tgt := 94) (pc' := 92) G dX4_laysIn_89 (by decide) rfl (fun c207 => ?_) (fun c207 => ?_)
                    · have hq9 : t + 1 ≤ sTF (rFr (I 215) w) mo la := isF_step (sTF_is _ _ _) hqt (by omega) (fun z => by have z2 : mMA (rLay (I 215) w la (sTurn mo t)) w = false := z.2; rw [c207] at z2; cases z2)
                      have hK9 : I206 = I ∨ ∃ c, I206 = mLay I w la c := Or.inr ⟨_, hI9⟩
                      refine fV_iinc (lv' := [(6, .int (i32 (sd + 1))), (7, .int (i32 (sTurn mo t))), (0, .ref (Γ.1 214)), (1, .int (i32 w)), (2, .int (i32 la)), (3, .int (i32 mo)), (4, .int (i32 (mo / 2))), (5, .int (i32 off))]) (pc' := 97) G 7 dX4_laysIn_94 rfl (by decide) rfl rfl ?_
                      refine fV_goto (tgt := 29) G dX4_laysIn_97 (by decide) ?_
                      refine fV_lv (lv' := [(0, .ref (Γ.1 214)), (1, .int (i32 w)), (2, .int (i32 la)), (3, .int (i32 mo)), (4, .int (i32 (mo / 2))), (5, .int (i32 off)), (6, .int (i32 (sd + 1)))]) [2, 3, 4, 5, 6, 7, 0] rfl ?_
                      exact ih_lpb _ (by omega) (sd + 1) I206 (by omega) hK9 (by have z9 := hq9; rw [ht] at z9; rw [← Int.add_assoc]; exact z9) rfl
                    · have hTF : sTF (rFr (I 215) w) mo la = t := isF_hit (sTF_is _ _ _) (by omega) hqt ⟨hin, c207⟩
                      refine fV_iconst (pc' := 93) G dX4_laysIn_92 rfl ?_
                      refine fV_zret (b := true) G dX4_laysIn_93 ?_
                      exact fE_bm (by rw [← hmo, hTF]; exact (decide_eq_true (by omega)).symm) (by rw [← hmo, hTF, if_pos (by omega)]; exact hI9) rfl
                · refine fV_iload (pc' := 51) G 4 dX4_laysIn_49 rfl rfl ?_
                  refine fV_iload (pc' := 53) G 5 dX4_laysIn_51 rfl rfl ?_
                  refine fV_isub (pc' := 54) G dX4_laysIn_53 rfl ?_
                  refine fV_goto (tgt := 62) G dX4_laysIn_54 (by decide) ?_
                  have htb : -100 ≤ sTurn mo t ∧ sTurn mo t ≤ 200 := by unfold sTurn; split <;> omega
                  refine fV_top (b := sTurn mo t) (by unfold sTurn; split <;> omega) ?_
                  refine fV_istore (lv' := [(7, .int (i32 (sTurn mo t))), (0, .ref (Γ.1 214)), (1, .int (i32 w)), (2, .int (i32 la)), (3, .int (i32 mo)), (4, .int (i32 (mo / 2))), (5, .int (i32 off)), (6, .int (i32 sd))]) (pc' := 64) G dX4_laysIn_62 (by decide) rfl rfl ?_
                  refine fV_iload (pc' := 66) G 0 dX4_laysIn_64 rfl rfl ?_
                  refine fV_i2l (pc' := 67) G dX4_laysIn_66 rfl (by omega) ?_
                  refine fV_lconst (v := 0) (pc' := 68) G dX4_laysIn_67 rfl rfl ?_
                  refine fV_iload_n (pc' := 69) G 4 dX4_laysIn_68 rfl rfl rfl ?_
                  refine fV_i2l (pc' := 70) G dX4_laysIn_69 rfl (by omega) ?_
                  refine fV_callSf (st' := [.int (i32 (fB (sBetw (sTurn mo t) 0 mo)))]) (n := 3) (As := [.long (i64 (sTurn mo t)), .long (i64 0), .long (i64 mo)]) (rest := []) (pc' := 73) G (mX4_in l Γ hN K P (sTurn mo t) 0 mo (by omega) (by omega) (by omega)) kcX4_laysIn_33 rfl rfl (Nat.le_of_ble_eq_true rfl) (Nat.zero_le _) (Nat.zero_le _) dX4_laysIn_70 rfl rfl ?_
                  refine fV_ifeq_b (tgt := 94) (pc' := 76) G dX4_laysIn_73 (by decide) rfl (fun c205 => ?_) (fun c205 => ?_)
                  · have d205 : ¬ (0 ≤ (sTurn mo t) ∧ (sTurn mo t) ≤ mo) := of_decide_eq_false c205
                    have hq9 : t + 1 ≤ sTF (rFr (I 215) w) mo la := isF_step (sTF_is _ _ _) hqt (by omega) (fun z => d205 z.1)
                    have hK9 := hK
                    refine fV_iinc (lv' := [(6, .int (i32 (sd + 1))), (7, .int (i32 (sTurn mo t))), (0, .ref (Γ.1 214)), (1, .int (i32 w)), (2, .int (i32 la)), (3, .int (i32 mo)), (4, .int (i32 (mo / 2))), (5, .int (i32 off))]) (pc' := 97) G 7 dX4_laysIn_94 rfl (by decide) rfl rfl ?_
                    refine fV_goto (tgt := 29) G dX4_laysIn_97 (by decide) ?_
                    refine fV_lv (lv' := [(0, .ref (Γ.1 214)), (1, .int (i32 w)), (2, .int (i32 la)), (3, .int (i32 mo)), (4, .int (i32 (mo / 2))), (5, .int (i32 off)), (6, .int (i32 (sd + 1)))]) [2, 3, 4, 5, 6, 7, 0] rfl ?_
                    exact ih_lpb _ (by omega) (sd + 1) K (by omega) hK9 (by have z9 := hq9; rw [ht] at z9; rw [← Int.add_assoc]; exact z9) rfl
                  · have d205 : (0 ≤ (sTurn mo t) ∧ (sTurn mo t) ≤ mo) := of_decide_eq_true c205
                    have hin := d205
                    refine fV_aload_n (pc' := 77) G 1 dX4_laysIn_76 rfl rfl rfl ?_
                    refine fV_iload_n (pc' := 78) G 2 dX4_laysIn_77 rfl rfl rfl ?_
                    refine fV_iload_n (pc' := 79) G 3 dX4_laysIn_78 rfl rfl rfl ?_
                    refine fV_iload (pc' := 81) G 0 dX4_laysIn_79 rfl rfl ?_
                    obtain ⟨I206, eI206⟩ : ∃ J9 : fM, J9 = mLay K w la (sTurn mo t) := ⟨_, rfl⟩
                    refine fV_callVf (I' := I206) (st' := []) (n := 3) (k := 214) (K := 4) (As := [.int (i32 w), .int (i32 la), .int (i32 (sTurn mo t))]) (rest := []) (pc' := 84) G (by rw [eI206]; exact mX4_lay l Γ hN K P w (by omega) la (sTurn mo t)) kcX4_laysIn_205 (by omega) rfl rfl rfl rfl (Nat.le_of_ble_eq_true rfl) (Nat.zero_le _) (Nat.zero_le _) dX4_laysIn_81 rfl rfl ?_
                    have hI9 : I206 = mLay I w la (sTurn mo t) := by rw [eI206]; exact hKm.1 _
                    have hr9 : I206 215 = rLay (I 215) w la (sTurn mo t) := by rw [hI9, mLay_row]
                    have hok9 : mOkr (rLay (I 215) w la (sTurn mo t)) := mOkr_lay hok (by omega) (Or.inr ⟨hla, by omega, by omega⟩)
                    have hwn9 : w < rLay (I 215) w la (sTurn mo t) 0 := by rw [rLay_o (by omega) (by omega)]; omega
                    refine fV_aload_n (pc' := 85) G 1 dX4_laysIn_84 rfl rfl rfl ?_
                    refine fV_iload_n (pc' := 86) G 2 dX4_laysIn_85 rfl rfl rfl ?_
                    refine fV_callVf (st' := [.int (i32 (fB (mMA (I206 215) w)))]) (n := 1) (k := 214) (K := 4) (As := [.int (i32 w)]) (rest := []) (pc' := 89) G (mX4_meetsAny l Γ hN I206 P (mOkr_sv hr9 hok9) (mOkr_wv hr9 hok9) w (by omega) (by rw [hr9]; exact hwn9)) kcX4_laysIn_208 (by omega) rfl rfl rfl rfl (Nat.le_of_ble_eq_true rfl) (Nat.zero_le _) (Nat.zero_le _) dX4_laysIn_86 rfl rfl ?_
                    refine fV_st (st' := [.int (i32 (fB (mMA (rLay (I 215) w la (sTurn mo t)) w)))]) (by rw [hr9]) ?_
                    refine fV_ifne_b (tgt := 94) (pc' := 92) G dX4_laysIn_89 (by decide) rfl (fun c207 => ?_) (fun c207 => ?_)
                    · have hq9 : t + 1 ≤ sTF (rFr (I 215) w) mo la := isF_step (sTF_is _ _ _) hqt (by omega) (fun z => by have z2 : mMA (rLay (I 215) w la (sTurn mo t)) w = false := z.2; rw [c207] at z2; cases z2)
                      have hK9 : I206 = I ∨ ∃ c, I206 = mLay I w la c := Or.inr ⟨_, hI9⟩
                      refine fV_iinc (lv' := [(6, .int (i32 (sd + 1))), (7, .int (i32 (sTurn mo t))), (0, .ref (Γ.1 214)), (1, .int (i32 w)), (2, .int (i32 la)), (3, .int (i32 mo)), (4, .int (i32 (mo / 2))), (5, .int (i32 off))]) (pc' := 97) G 7 dX4_laysIn_94 rfl (by decide) rfl rfl ?_
                      refine fV_goto (tgt := 29) G dX4_laysIn_97 (by decide) ?_
                      refine fV_lv (lv' := [(0, .ref (Γ.1 214)), (1, .int (i32 w)), (2, .int (i32 la)), (3, .int (i32 mo)), (4, .int (i32 (mo / 2))), (5, .int (i32 off)), (6, .int (i32 (sd + 1)))]) [2, 3, 4, 5, 6, 7, 0] rfl ?_
                      exact ih_lpb _ (by omega) (sd + 1) I206 (by omega) hK9 (by have z9 := hq9; rw [ht] at z9; rw [← Int.add_assoc]; exact z9) rfl
                    · have hTF : sTF (rFr (I 215) w) mo la = t := isF_hit (sTF_is _ _ _) (by omega) hqt ⟨hin, c207⟩
                      refine fV_iconst (pc' := 93) G dX4_laysIn_92 rfl ?_
                      refine fV_zret (b := true) G dX4_laysIn_93 ?_
                      exact fE_bm (by rw [← hmo, hTF]; exact (decide_eq_true (by omega)).symm) (by rw [← hmo, hTF, if_pos (by omega)]; exact hI9) rfl
            · refine fV_iconst (pc' := 37) G dX4_laysIn_36 rfl ?_
              refine fV_goto (tgt := 41) G dX4_laysIn_37 (by decide) ?_
              refine fV_icmp_ge (tgt := 100) (pc' := 44) G dX4_laysIn_41 (by decide) rfl (by omega) (by decide) (fun c203 => ?_) (fun c203 => ?_)
              · refine fV_iinc (lv' := [(5, .int (i32 (off + 1))), (0, .ref (Γ.1 214)), (1, .int (i32 w)), (2, .int (i32 la)), (3, .int (i32 mo)), (4, .int (i32 (mo / 2))), (6, .int (i32 sd))]) (pc' := 103) G 5 dX4_laysIn_100 rfl (by decide) rfl rfl ?_
                refine fV_goto (tgt := 19) G dX4_laysIn_103 (by decide) ?_
                refine fV_lv (lv' := [(0, .ref (Γ.1 214)), (1, .int (i32 w)), (2, .int (i32 la)), (3, .int (i32 mo)), (4, .int (i32 (mo / 2))), (5, .int (i32 (off + 1)))]) [1, 2, 3, 4, 5, 0] rfl ?_
                exact ih_lp _ (by omega) (off + 1) K (by omega) hK (by rw [if_neg (by omega), show 2 * (off + 1) - 1 = t by omega]; exact hqt) rfl
              · refine fV_iload (pc' := 46) G 6 dX4_laysIn_44 rfl rfl ?_
                refine fV_if_ne (tgt := 57) (pc' := 49) G dX4_laysIn_46 (by decide) rfl (by omega) (fun c204 => ?_) (fun c204 => ?_)
                · refine fV_iload (pc' := 59) G 4 dX4_laysIn_57 rfl rfl ?_
                  refine fV_iload (pc' := 61) G 5 dX4_laysIn_59 rfl rfl ?_
                  refine fV_iadd (pc' := 62) G dX4_laysIn_61 rfl ?_
                  have htb : -100 ≤ sTurn mo t ∧ sTurn mo t ≤ 200 := by unfold sTurn; split <;> omega
                  refine fV_top (b := sTurn mo t) (by unfold sTurn; split <;> omega) ?_
                  refine fV_istore (lv' := [(7, .int (i32 (sTurn mo t))), (0, .ref (Γ.1 214)), (1, .int (i32 w)), (2, .int (i32 la)), (3, .int (i32 mo)), (4, .int (i32 (mo / 2))), (5, .int (i32 off)), (6, .int (i32 sd))]) (pc' := 64) G dX4_laysIn_62 (by decide) rfl rfl ?_
                  refine fV_iload (pc' := 66) G 0 dX4_laysIn_64 rfl rfl ?_
                  refine fV_i2l (pc' := 67) G dX4_laysIn_66 rfl (by omega) ?_
                  refine fV_lconst (v := 0) (pc' := 68) G dX4_laysIn_67 rfl rfl ?_
                  refine fV_iload_n (pc' := 69) G 4 dX4_laysIn_68 rfl rfl rfl ?_
                  refine fV_i2l (pc' := 70) G dX4_laysIn_69 rfl (by omega) ?_
                  refine fV_callSf (st' := [.int (i32 (fB (sBetw (sTurn mo t) 0 mo)))]) (n := 3) (As := [.long (i64 (sTurn mo t)), .long (i64 0), .long (i64 mo)]) (rest := []) (pc' := 73) G (mX4_in l Γ hN K P (sTurn mo t) 0 mo (by omega) (by omega) (by omega)) kcX4_laysIn_33 rfl rfl (Nat.le_of_ble_eq_true rfl) (Nat.zero_le _) (Nat.zero_le _) dX4_laysIn_70 rfl rfl ?_
                  refine fV_ifeq_b (tgt := 94) (pc' := 76) G dX4_laysIn_73 (by decide) rfl (fun c205 => ?_) (fun c205 => ?_)
                  · have d205 : ¬ (0 ≤ (sTurn mo t) ∧ (sTurn mo t) ≤ mo) := of_decide_eq_false c205
                    have hq9 : t + 1 ≤ sTF (rFr (I 215) w) mo la := isF_step (sTF_is _ _ _) hqt (by omega) (fun z => d205 z.1)
                    have hK9 := hK
                    refine fV_iinc (lv' := [(6, .int (i32 (sd + 1))), (7, .int (i32 (sTurn mo t))), (0, .ref (Γ.1 214)), (1, .int (i32 w)), (2, .int (i32 la)), (3, .int (i32 mo)), (4, .int (i32 (mo / 2))), (5, .int (i32 off))]) (pc' := 97) G 7 dX4_laysIn_94 rfl (by decide) rfl rfl ?_
                    refine fV_goto (tgt := 29) G dX4_laysIn_97 (by decide) ?_
                    refine fV_lv (lv' := [(0, .ref (Γ.1 214)), (1, .int (i32 w)), (2, .int (i32 la)), (3, .int (i32 mo)), (4, .int (i32 (mo / 2))), (5, .int (i32 off)), (6, .int (i32 (sd + 1)))]) [2, 3, 4, 5, 6, 7, 0] rfl ?_
                    exact ih_lpb _ (by omega) (sd + 1) K (by omega) hK9 (by have z9 := hq9; rw [ht] at z9; rw [← Int.add_assoc]; exact z9) rfl
                  · have d205 : (0 ≤ (sTurn mo t) ∧ (sTurn mo t) ≤ mo) := of_decide_eq_true c205
                    have hin := d205
                    refine fV_aload_n (pc' := 77) G 1 dX4_laysIn_76 rfl rfl rfl ?_
                    refine fV_iload_n (pc' := 78) G 2 dX4_laysIn_77 rfl rfl rfl ?_
                    refine fV_iload_n (pc' := 79) G 3 dX4_laysIn_78 rfl rfl rfl ?_
                    refine fV_iload (pc' := 81) G 0 dX4_laysIn_79 rfl rfl ?_
                    obtain ⟨I206, eI206⟩ : ∃ J9 : fM, J9 = mLay K w la (sTurn mo t) := ⟨_, rfl⟩
                    refine fV_callVf (I' := I206) (st' := []) (n := 3) (k := 214) (K := 4) (As := [.int (i32 w), .int (i32 la), .int (i32 (sTurn mo t))]) (rest := []) (pc' := 84) G (by rw [eI206]; exact mX4_lay l Γ hN K P w (by omega) la (sTurn mo t)) kcX4_laysIn_205 (by omega) rfl rfl rfl rfl (Nat.le_of_ble_eq_true rfl) (Nat.zero_le _) (Nat.zero_le _) dX4_laysIn_81 rfl rfl ?_
                    have hI9 : I206 = mLay I w la (sTurn mo t) := by rw [eI206]; exact hKm.1 _
                    have hr9 : I206 215 = rLay (I 215) w la (sTurn mo t) := by rw [hI9, mLay_row]
                    have hok9 : mOkr (rLay (I 215) w la (sTurn mo t)) := mOkr_lay hok (by omega) (Or.inr ⟨hla, by omega, by omega⟩)
                    have hwn9 : w < rLay (I 215) w la (sTurn mo t) 0 := by rw [rLay_o (by omega) (by omega)]; omega
                    refine fV_aload_n (pc' := 85) G 1 dX4_laysIn_84 rfl rfl rfl ?_
                    refine fV_iload_n (pc' := 86) G 2 dX4_laysIn_85 rfl rfl rfl ?_
                    refine fV_callVf (st' := [.int (i32 (fB (mMA (I206 215) w)))]) (n := 1) (k := 214) (K := 4) (As := [.int (i32 w)]) (rest := []) (pc' := 89) G (mX4_meetsAny l Γ hN I206 P (mOkr_sv hr9 hok9) (mOkr_wv hr9 hok9) w (by omega) (by rw [hr9]; exact hwn9)) kcX4_laysIn_208 (by omega) rfl rfl rfl rfl (Nat.le_of_ble_eq_true rfl) (Nat.zero_le _) (Nat.zero_le _) dX4_laysIn_86 rfl rfl ?_
                    refine fV_st (st' := [.int (i32 (fB (mMA (rLay (I 215) w la (sTurn mo t)) w)))]) (by rw [hr9]) ?_
                    refine fV_ifne_b (tgt := 94) (pc' := 92) G dX4_laysIn_89 (by decide) rfl (fun c207 => ?_) (fun c207 => ?_)
                    · have hq9 : t + 1 ≤ sTF (rFr (I 215) w) mo la := isF_step (sTF_is _ _ _) hqt (by omega) (fun z => by have z2 : mMA (rLay (I 215) w la (sTurn mo t)) w = false := z.2; rw [c207] at z2; cases z2)
                      have hK9 : I206 = I ∨ ∃ c, I206 = mLay I w la c := Or.inr ⟨_, hI9⟩
                      refine fV_iinc (lv' := [(6, .int (i32 (sd + 1))), (7, .int (i32 (sTurn mo t))), (0, .ref (Γ.1 214)), (1, .int (i32 w)), (2, .int (i32 la)), (3, .int (i32 mo)), (4, .int (i32 (mo / 2))), (5, .int (i32 off))]) (pc' := 97) G 7 dX4_laysIn_94 rfl (by decide) rfl rfl ?_
                      refine fV_goto (tgt := 29) G dX4_laysIn_97 (by decide) ?_
                      refine fV_lv (lv' := [(0, .ref (Γ.1 214)), (1, .int (i32 w)), (2, .int (i32 la)), (3, .int (i32 mo)), (4, .int (i32 (mo / 2))), (5, .int (i32 off)), (6, .int (i32 (sd + 1)))]) [2, 3, 4, 5, 6, 7, 0] rfl ?_
                      exact ih_lpb _ (by omega) (sd + 1) I206 (by omega) hK9 (by have z9 := hq9; rw [ht] at z9; rw [← Int.add_assoc]; exact z9) rfl
                    · have hTF : sTF (rFr (I 215) w) mo la = t := isF_hit (sTF_is _ _ _) (by omega) hqt ⟨hin, c207⟩
                      refine fV_iconst (pc' := 93) G dX4_laysIn_92 rfl ?_
                      refine fV_zret (b := true) G dX4_laysIn_93 ?_
                      exact fE_bm (by rw [← hmo, hTF]; exact (decide_eq_true (by omega)).symm) (by rw [← hmo, hTF, if_pos (by omega)]; exact hI9) rfl
                · refine fV_iload (pc' := 51) G 4 dX4_laysIn_49 rfl rfl ?_
                  refine fV_iload (pc' := 53) G 5 dX4_laysIn_51 rfl rfl ?_
                  refine fV_isub (pc' := 54) G dX4_laysIn_53 rfl ?_
                  refine fV_goto (tgt := 62) G dX4_laysIn_54 (by decide) ?_
                  have htb : -100 ≤ sTurn mo t ∧ sTurn mo t ≤ 200 := by unfold sTurn; split <;> omega
                  refine fV_top (b := sTurn mo t) (by unfold sTurn; split <;> omega) ?_
                  refine fV_istore (lv' := [(7, .int (i32 (sTurn mo t))), (0, .ref (Γ.1 214)), (1, .int (i32 w)), (2, .int (i32 la)), (3, .int (i32 mo)), (4, .int (i32 (mo / 2))), (5, .int (i32 off)), (6, .int (i32 sd))]) (pc' := 64) G dX4_laysIn_62 (by decide) rfl rfl ?_
                  refine fV_iload (pc' := 66) G 0 dX4_laysIn_64 rfl rfl ?_
                  refine fV_i2l (pc' := 67) G dX4_laysIn_66 rfl (by omega) ?_
                  refine fV_lconst (v := 0) (pc' := 68) G dX4_laysIn_67 rfl rfl ?_
                  refine fV_iload_n (pc' := 69) G 4 dX4_laysIn_68 rfl rfl rfl ?_
                  refine fV_i2l (pc' := 70) G dX4_laysIn_69 rfl (by omega) ?_
                  refine fV_callSf (st' := [.int (i32 (fB (sBetw (sTurn mo t) 0 mo)))]) (n := 3) (As := [.long (i64 (sTurn mo t)), .long (i64 0), .long (i64 mo)]) (rest := []) (pc' := 73) G (mX4_in l Γ hN K P (sTurn mo t) 0 mo (by omega) (by omega) (by omega)) kcX4_laysIn_33 rfl rfl (Nat.le_of_ble_eq_true rfl) (Nat.zero_le _) (Nat.zero_le _) dX4_laysIn_70 rfl rfl ?_
                  refine fV_ifeq_b (tgt := 94) (pc' := 76) G dX4_laysIn_73 (by decide) rfl (fun c205 => ?_) (fun c205 => ?_)
                  · have d205 : ¬ (0 ≤ (sTurn mo t) ∧ (sTurn mo t) ≤ mo) := of_decide_eq_false c205
                    have hq9 : t + 1 ≤ sTF (rFr (I 215) w) mo la := isF_step (sTF_is _ _ _) hqt (by omega) (fun z => d205 z.1)
                    have hK9 := hK
                    refine fV_iinc (lv' := [(6, .int (i32 (sd + 1))), (7, .int (i32 (sTurn mo t))), (0, .ref (Γ.1 214)), (1, .int (i32 w)), (2, .int (i32 la)), (3, .int (i32 mo)), (4, .int (i32 (mo / 2))), (5, .int (i32 off))]) (pc' := 97) G 7 dX4_laysIn_94 rfl (by decide) rfl rfl ?_
                    refine fV_goto (tgt := 29) G dX4_laysIn_97 (by decide) ?_
                    refine fV_lv (lv' := [(0, .ref (Γ.1 214)), (1, .int (i32 w)), (2, .int (i32 la)), (3, .int (i32 mo)), (4, .int (i32 (mo / 2))), (5, .int (i32 off)), (6, .int (i32 (sd + 1)))]) [2, 3, 4, 5, 6, 7, 0] rfl ?_
                    exact ih_lpb _ (by omega) (sd + 1) K (by omega) hK9 (by have z9 := hq9; rw [ht] at z9; rw [← Int.add_assoc]; exact z9) rfl
                  · have d205 : (0 ≤ (sTurn mo t) ∧ (sTurn mo t) ≤ mo) := of_decide_eq_true c205
                    have hin := d205
                    refine fV_aload_n (pc' := 77) G 1 dX4_laysIn_76 rfl rfl rfl ?_
                    refine fV_iload_n (pc' := 78) G 2 dX4_laysIn_77 rfl rfl rfl ?_
                    refine fV_iload_n (pc' := 79) G 3 dX4_laysIn_78 rfl rfl rfl ?_
                    refine fV_iload (pc' := 81) G 0 dX4_laysIn_79 rfl rfl ?_
                    obtain ⟨I206, eI206⟩ : ∃ J9 : fM, J9 = mLay K w la (sTurn mo t) := ⟨_, rfl⟩
                    refine fV_callVf (I' := I206) (st' := []) (n := 3) (k := 214) (K := 4) (As := [.int (i32 w), .int (i32 la), .int (i32 (sTurn mo t))]) (rest := []) (pc' := 84) G (by rw [eI206]; exact mX4_lay l Γ hN K P w (by omega) la (sTurn mo t)) kcX4_laysIn_205 (by omega) rfl rfl rfl rfl (Nat.le_of_ble_eq_true rfl) (Nat.zero_le _) (Nat.zero_le _) dX4_laysIn_81 rfl rfl ?_
                    have hI9 : I206 = mLay I w la (sTurn mo t) := by rw [eI206]; exact hKm.1 _
                    have hr9 : I206 215 = rLay (I 215) w la (sTurn mo t) := by rw [hI9, mLay_row]
                    have hok9 : mOkr (rLay (I 215) w la (sTurn mo t)) := mOkr_lay hok (by omega) (Or.inr ⟨hla, by omega, by omega⟩)
                    have hwn9 : w < rLay (I 215) w la (sTurn mo t) 0 := by rw [rLay_o (by omega) (by omega)]; omega
                    refine fV_aload_n (pc' := 85) G 1 dX4_laysIn_84 rfl rfl rfl ?_
                    refine fV_iload_n (pc' := 86) G 2 dX4_laysIn_85 rfl rfl rfl ?_
                    refine fV_callVf (st' := [.int (i32 (fB (mMA (I206 215) w)))]) (n := 1) (k := 214) (K := 4) (As := [.int (i32 w)]) (rest := []) (pc' := 89) G (mX4_meetsAny l Γ hN I206 P (mOkr_sv hr9 hok9) (mOkr_wv hr9 hok9) w (by omega) (by rw [hr9]; exact hwn9)) kcX4_laysIn_208 (by omega) rfl rfl rfl rfl (Nat.le_of_ble_eq_true rfl) (Nat.zero_le _) (Nat.zero_le _) dX4_laysIn_86 rfl rfl ?_
                    refine fV_st (st' := [.int (i32 (fB (mMA (rLay (I 215) w la (sTurn mo t)) w)))]) (by rw [hr9]) ?_
                    refine fV_ifne_b (tgt := 94) (pc' := 92) G dX4_laysIn_89 (by decide) rfl (fun c207 => ?_) (fun c207 => ?_)
                    · have hq9 : t + 1 ≤ sTF (rFr (I 215) w) mo la := isF_step (sTF_is _ _ _) hqt (by omega) (fun z => by have z2 : mMA (rLay (I 215) w la (sTurn mo t)) w = false := z.2; rw [c207] at z2; cases z2)
                      have hK9 : I206 = I ∨ ∃ c, I206 = mLay I w la c := Or.inr ⟨_, hI9⟩
                      refine fV_iinc (lv' := [(6, .int (i32 (sd + 1))), (7, .int (i32 (sTurn mo t))), (0, .ref (Γ.1 214)), (1, .int (i32 w)), (2, .int (i32 la)), (3, .int (i32 mo)), (4, .int (i32 (mo / 2))), (5, .int (i32 off))]) (pc' := 97) G 7 dX4_laysIn_94 rfl (by decide) rfl rfl ?_
                      refine fV_goto (tgt := 29) G dX4_laysIn_97 (by decide) ?_
                      refine fV_lv (lv' := [(0, .ref (Γ.1 214)), (1, .int (i32 w)), (2, .int (i32 la)), (3, .int (i32 mo)), (4, .int (i32 (mo / 2))), (5, .int (i32 off)), (6, .int (i32 (sd + 1)))]) [2, 3, 4, 5, 6, 7, 0] rfl ?_
                      exact ih_lpb _ (by omega) (sd + 1) I206 (by omega) hK9 (by have z9 := hq9; rw [ht] at z9; rw [← Int.add_assoc]; exact z9) rfl
                    · have hTF : sTF (rFr (I 215) w) mo la = t := isF_hit (sTF_is _ _ _) (by omega) hqt ⟨hin, c207⟩
                      refine fV_iconst (pc' := 93) G dX4_laysIn_92 rfl ?_
                      refine fV_zret (b := true) G dX4_laysIn_93 ?_
                      exact fE_bm (by rw [← hmo, hTF]; exact (decide_eq_true (by omega)).symm) (by rw [← hmo, hTF, if_pos (by omega)]; exact hI9) rfl
        refine fV_lv (lv' := [(0, .ref (Γ.1 214)), (1, .int (i32 w)), (2, .int (i32 la)), (3, .int (i32 mo)), (4, .int (i32 (mo / 2))), (5, .int (i32 off)), (6, .int (i32 0))]) [1, 2, 3, 4, 5, 6, 0] rfl ?_
        exact lpb _ 0 J (by omega) hJ (by rw [Int.add_zero]; exact hq) rfl
  refine fV_lv (lv' := [(0, .ref (Γ.1 214)), (1, .int (i32 w)), (2, .int (i32 la)), (3, .int (i32 mo)), (4, .int (i32 (mo / 2))), (5, .int (i32 0))]) [3, 4, 5, 2, 1, 0] rfl ?_
  exact lp _ 0 I (by omega) (Or.inl rfl) (by rw [if_pos rfl]; exact (sTF_is _ _ _).1.1) rfl
