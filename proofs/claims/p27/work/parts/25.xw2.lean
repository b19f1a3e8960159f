/-! CONTRACTS 11: the class's private writes, second part (rows laid by wip/whole/gen/con11.py) -/
set_option maxHeartbeats 4000000 in
set_option maxRecDepth 100000 in
theorem mX3_dropOldestState (l : Launch) (Γ : fG) {N : Nat} (hN : 214 ≤ N) (I : fM) (P : fN) (hhs : fHs P) : fMet l yX3_dropOldestState wsX3_dropOldestState rmX3_dropOldestState Γ N [.ref (Γ.1 0)] I P (fE none (fup I 0 3 4) (pRot P 61 0 4)) := by
  refine fMet_of (own := RX3) (cc := cX3_dropOldestState) (maxL := 3) (ret := none) rfl (by decide +kernel) rfl (Nat.le_of_ble_eq_true rfl) ?_
  intro p e s m args below meth c G
  refine fV_lv (lv' := [(0, .ref (Γ.1 0))]) [0] rfl ?_
  refine fV_aload_n (pc' := 1) G 0 dX3_dropOldestState_0 rfl rfl rfl ?_
  refine fV_get (K := 3) (v := .ref (Γ.1 61)) (pc' := 4) G kfX3_dropOldestState_19 (by omega) rfl rfl rfl dX3_dropOldestState_1 rfl ?_
  refine fV_iconst (pc' := 5) G dX3_dropOldestState_4 rfl ?_
  refine fV_aald (K := 12) (n := 5) (t := 2) (pc' := 6) G (by omega) rfl (fun _ _ => rfl) rfl (by decide) (by omega) dX3_dropOldestState_5 rfl ?_
  refine fV_astore_n (lv' := [(1, .ref (Γ.1 (P 61 0))), (0, .ref (Γ.1 0))]) (pc' := 7) G dX3_dropOldestState_6 rfl (by decide) rfl rfl ?_
  refine fV_iconst (pc' := 8) G dX3_dropOldestState_7 rfl ?_
  refine fV_istore_n (lv' := [(2, .int (i32 1)), (1, .ref (Γ.1 (P 61 0))), (0, .ref (Γ.1 0))]) (pc' := 9) G dX3_dropOldestState_8 rfl (by decide) rfl rfl ?_
  have lp : ∀ (z : Nat) (i : Int) (Q : fN), 1 ≤ i ∧ i ≤ 5 → Q = pShl P 61 0 (i - 1) → ((5 - i).toNat) = z → fV p l e rmX3_dropOldestState s m args below meth c (MQ below (fQ Γ N (fE none (fup I 0 3 4) (pRot P 61 0 4))) args s 0 0 (fA Γ N)) (fA Γ N) Γ N 3 0 0 I Q 9 [(0, .ref (Γ.1 0)), (1, .ref (Γ.1 (P 61 0))), (2, .int (i32 i))] [] := by
    intro z
    induction z using Nat.strongRecOn with
    | _ z ih_lp =>
      intro i Q hi hQ hz_lp
      have hqi : ∀ b : Int, i - 1 ≤ b → Q 61 b = P 61 b := fun b hb => by rw [hQ]; unfold pShl; rw [if_neg (by omega)]
      have hqs : ∀ b : Int, i - 1 ≤ b → b < 5 → fSc (Q 61 b) := fun b hb hb2 => by rw [hqi b hb]; exact fHs_s hhs (by omega) hb2
      have hqb : ∀ b : Int, i - 1 ≤ b → b < 5 → 62 ≤ Q 61 b ∧ Q 61 b + 30 ≤ 212 := fun b hb hb2 => by rw [hqi b hb]; exact fHs_b hhs (by omega) hb2
      refine fV_iload_n (pc' := 10) G 2 dX3_dropOldestState_9 rfl rfl rfl ?_
      refine fV_iconst (pc' := 11) G dX3_dropOldestState_10 rfl ?_
      refine fV_icmp_ge (tgt := 34) (pc' := 14) G dX3_dropOldestState_11 (by decide) rfl (by omega) (by decide) (fun c101 => ?_) (fun c101 => ?_)
      · refine fV_aload_n (pc' := 35) G 0 dX3_dropOldestState_34 rfl rfl rfl ?_
        refine fV_get (K := 3) (v := .ref (Γ.1 61)) (pc' := 38) G kfX3_dropOldestState_19 (by omega) rfl rfl rfl dX3_dropOldestState_35 rfl ?_
        refine fV_iconst (pc' := 39) G dX3_dropOldestState_38 rfl ?_
        refine fV_aload_n (pc' := 40) G 1 dX3_dropOldestState_39 rfl rfl rfl ?_
        refine fV_aast (K := 12) (K2 := 0) (n := 5) (t := 2) (pc' := 41) G (by omega) rfl (fun _ _ => rfl) (by have := fHs_b hhs (w := 0) (by omega) (by omega); omega) (fSc_k (fHs_s hhs (by omega) (by omega))).2.1 rfl rfl rfl (by decide) (by omega) dX3_dropOldestState_40 rfl (fun P102 eP102 => ?_)
        refine fV_aload_n (pc' := 42) G 0 dX3_dropOldestState_41 rfl rfl rfl ?_
        refine fV_iconst (pc' := 43) G dX3_dropOldestState_42 rfl ?_
        refine fV_put (K := 3) (jj := 3) (x := 4) (v := .int (i32 4)) (ty := .int) (pc' := 46) G kfX3_dropOldestState_23 (by omega) rfl rfl rfl kp3_3 rfl rfl (Nat.le_of_ble_eq_true rfl) dX3_dropOldestState_43 rfl (fun I103 eI103 => ?_)
        refine fV_vret G dX3_dropOldestState_46 ?_
        exact fE_vm (by rw [eI103]) (by rw [eP102, hQ, show i - 1 = 4 by omega, pRot_e])
      · refine fV_aload_n (pc' := 15) G 0 dX3_dropOldestState_14 rfl rfl rfl ?_
        refine fV_get (K := 3) (v := .ref (Γ.1 61)) (pc' := 18) G kfX3_dropOldestState_19 (by omega) rfl rfl rfl dX3_dropOldestState_15 rfl ?_
        refine fV_iload_n (pc' := 19) G 2 dX3_dropOldestState_18 rfl rfl rfl ?_
        refine fV_iconst (pc' := 20) G dX3_dropOldestState_19 rfl ?_
        refine fV_isub (pc' := 21) G dX3_dropOldestState_20 rfl ?_
        refine fV_aload_n (pc' := 22) G 0 dX3_dropOldestState_21 rfl rfl rfl ?_
        refine fV_get (K := 3) (v := .ref (Γ.1 61)) (pc' := 25) G kfX3_dropOldestState_19 (by omega) rfl rfl rfl dX3_dropOldestState_22 rfl ?_
        refine fV_iload_n (pc' := 26) G 2 dX3_dropOldestState_25 rfl rfl rfl ?_
        refine fV_aald (K := 12) (n := 5) (t := 2) (pc' := 27) G (by omega) rfl (fun _ _ => rfl) rfl (by decide) (by omega) dX3_dropOldestState_26 rfl ?_
        refine fV_aast (K := 12) (K2 := 0) (n := 5) (t := 2) (pc' := 28) G (by omega) rfl (fun _ _ => rfl) (by have := hqb (i) (by omega) (by omega); omega) (fSc_k (hqs (i) (by omega) (by omega))).2.1 rfl rfl rfl (by decide) (by omega) dX3_dropOldestState_27 rfl (fun P102 eP102 => ?_)
        refine fV_iinc (lv' := [(2, .int (i32 (i + 1))), (0, .ref (Γ.1 0)), (1, .ref (Γ.1 (P 61 0)))]) (pc' := 31) G 2 dX3_dropOldestState_28 rfl (by decide) rfl rfl ?_
        refine fV_goto (tgt := 9) G dX3_dropOldestState_31 (by decide) ?_
        refine fV_lv (lv' := [(0, .ref (Γ.1 0)), (1, .ref (Γ.1 (P 61 0))), (2, .int (i32 (i + 1)))]) [1, 2, 0] rfl ?_
        exact ih_lp _ (by omega) (i + 1) P102 (by omega) (by rw [eP102, hQ]; have e := pShl_s (P := P) (k := 61) (a := 0) (n := i - 1) (by omega); rw [show i - 1 + 1 = i by omega] at e; rw [e, show i + 1 - 1 = i by omega]) rfl
  refine fV_lv (lv' := [(0, .ref (Γ.1 0)), (1, .ref (Γ.1 (P 61 0))), (2, .int (i32 1))]) [2, 1, 0] rfl ?_
  exact lp _ 1 P (by omega) ((pShl_0 _ _ _).symm) rfl
set_option maxHeartbeats 4000000 in
set_option maxRecDepth 100000 in
theorem mX3_record (l : Launch) (Γ : fG) {N : Nat} (hN : 214 ≤ N) (I : fM) (P : fN) (h3 : 0 ≤ I 0 3 ∧ I 0 3 ≤ 5) (hhs : fHs P) (hpa : fPa P) (hc : 0 ≤ I 1 1 ∧ I 1 1 ≤ 12) (hz : ∀ w : Int, 0 ≤ w → w < I 1 1 → I (P (1 + 1) w) 6 = 0 ∨ I (P (1 + 1) w) 6 = 1) : fMet l yX3_record wsX3_record rmX3_record Γ N [.ref (Γ.1 0)] I P (fun v J Q => v = none ∧ xRec I P J Q) := by
  refine fMet_of (own := RX3) (cc := cX3_record) (maxL := 1) (ret := none) rfl (by decide +kernel) rfl (Nat.le_of_ble_eq_true rfl) ?_
  intro p e s m args below meth c G
  refine fV_lv (lv' := [(0, .ref (Γ.1 0))]) [0] rfl ?_
  refine fV_aload_n (pc' := 1) G 0 dX3_record_0 rfl rfl rfl ?_
  refine fV_get (K := 3) (v := .int (i32 (I 0 3))) (pc' := 4) G kfX3_record_23 (by omega) rfl rfl rfl dX3_record_1 rfl ?_
  refine fV_iconst (pc' := 5) G dX3_record_4 rfl ?_
  refine fV_icmp_lt (tgt := 12) (pc' := 8) G dX3_record_5 (by decide) rfl (by omega) (by decide) (fun c1 => ?_) (fun c1 => ?_)
  · obtain ⟨M, hM⟩ : ∃ M : fM, M = I := ⟨_, rfl⟩
    have hP1 : xRecP I P = P := by unfold xRecP; rw [if_neg (by omega)]
    have hN1 : xRecN I = I 0 3 := by unfold xRecN; rw [if_neg (by omega)]
    have hM3 : I 0 3 = xRecN I := hN1.symm
    have hMo : ∀ a : Nat, a ≠ 0 → I a = I a := fun a _ => rfl
    have hM0 : ∀ b : Int, b ≠ 3 → I 0 b = I 0 b := fun b _ => rfl
    have hnb : 0 ≤ xRecN I ∧ xRecN I < 5 := by omega
    have hhq : fHs P := by rw [← hP1]; unfold xRecP; split; exact fHs_rot hhs; exact hhs
    have hpq : fPa P := by rw [← hP1]; unfold xRecP; split; exact fPa_61 hpa; exact hpa
    have h2q : P (1 + 1) = P (1 + 1) := by first | rfl | (rw [← hP1]; unfold xRecP; split; exact pRot_o (by decide); rfl)
    refine fV_aload_n (pc' := 13) G 0 dX3_record_12 rfl rfl rfl ?_
    refine fV_get (K := 3) (v := .ref (Γ.1 61)) (pc' := 16) G kfX3_record_19 (by omega) rfl rfl rfl dX3_record_13 rfl ?_
    refine fV_aload_n (pc' := 17) G 0 dX3_record_16 rfl rfl rfl ?_
    refine fV_get (K := 3) (v := .int (i32 (I 0 3))) (pc' := 20) G kfX3_record_23 (by omega) rfl rfl rfl dX3_record_17 rfl ?_
    refine fV_top (b := xRecN I) hM3 ?_
    refine fV_aald (K := 12) (n := 5) (t := 2) (pc' := 21) G (by omega) rfl (fun _ _ => rfl) rfl (by decide) (by omega) dX3_record_20 rfl ?_
    refine fV_aload_n (pc' := 22) G 0 dX3_record_21 rfl rfl rfl ?_
    refine fV_get (K := 3) (v := .ref (Γ.1 1)) (pc' := 25) G kfX3_record_10 (by omega) rfl rfl rfl dX3_record_22 rfl ?_
    have hcm : 0 ≤ I 1 1 ∧ I 1 1 ≤ 12 := by rw [hMo 1 (by decide)]; exact hc
    have hzm : ∀ w : Int, 0 ≤ w → w < I 1 1 → I (P (1 + 1) w) 6 = 0 ∨ I (P (1 + 1) w) 6 = 1 := fun w h0 h1 => by rw [hMo 1 (by decide)] at h1; rw [h2q, hMo _ (by have := (fPs_w fSc_1 (hpa 1 fSc_1) h0 (by omega)).2.1; intro z; rw [z] at this; cases this)]; exact hz w h0 h1
    refine fV_callV (n := 1) (k := (P 61 (xRecN I))) (K := 0) (As := [.ref (Γ.1 1)]) (rest := []) (pc' := 28) G (mX0_copyFrom l Γ hN I P (fHs_s hhq hnb.1 hnb.2) fSc_1 (by have := fHs_b hhq hnb.1 hnb.2; omega) (hpq _ (fHs_s hhq hnb.1 hnb.2)) (hpq _ fSc_1) hcm hzm) kcX3_record_107 (by have := fHs_b hhq hnb.1 hnb.2; omega) (fSc_k (fHs_s hhq hnb.1 hnb.2)).2.1 rfl rfl rfl (Nat.le_of_ble_eq_true rfl) (Nat.zero_le _) (Nat.zero_le _) dX3_record_25 rfl (fun v2 I3 P4 h5 => ?_)
    obtain ⟨h5v, eP4, hve, hou⟩ := h5
    refine fV_st (st' := []) (by rw [h5v]; rfl) ?_
    have hhb := fHs_b hhq hnb.1 hnb.2
    have hJ3 : I3 0 3 = xRecN I := by rw [hou 0 (by omega)]; exact hM3
    refine fV_aload_n (pc' := 29) G 0 dX3_record_28 rfl rfl rfl ?_
    refine fV_dup (pc' := 30) G dX3_record_29 rfl rfl ?_
    refine fV_get (K := 3) (v := .int (i32 (I3 0 3))) (pc' := 33) G kfX3_record_23 (by omega) rfl rfl rfl dX3_record_30 rfl ?_
    refine fV_top (b := xRecN I) hJ3 ?_
    refine fV_iconst (pc' := 34) G dX3_record_33 rfl ?_
    refine fV_iadd (pc' := 35) G dX3_record_34 rfl ?_
    refine fV_put (K := 3) (jj := 3) (x := (xRecN I) + 1) (v := .int (i32 ((xRecN I) + 1))) (ty := .int) (pc' := 38) G kfX3_record_23 (by omega) rfl rfl rfl kp3_3 rfl rfl (Nat.le_of_ble_eq_true rfl) dX3_record_35 rfl (fun I6 eI6 => ?_)
    refine fV_vret G dX3_record_38 ?_
    refine ⟨rfl, by rw [eP4]; exact hP1.symm, ?_, by rw [eI6, fup_s], fun b hb => ?_, fun a ha hb => ?_⟩
    · rw [eI6, eP4]; exact vEq_l (I := I) (fun a ha => (hMo a (by omega))) h2q (hpa 1 fSc_1) hc (vEq_r (fun a ha => fup_ne (by omega)) (by omega) (hpq _ (fHs_s hhq hnb.1 hnb.2)) hcm hve)
    · rw [eI6, fup_j hb, hou 0 (by omega)] <;> exact hM0 b hb
    · rw [eI6, fup_ne ha, hou a (by rw [eP4] at hb; exact hb)] <;> exact hMo a ha
  · refine fV_aload_n (pc' := 9) G 0 dX3_record_8 rfl rfl rfl ?_
    refine fV_callV (n := 0) (k := 0) (K := 3) (As := []) (rest := []) (pc' := 12) G (mX3_dropOldestState l Γ hN I P hhs) kcX3_record_202 (by omega) rfl rfl rfl rfl (Nat.le_of_ble_eq_true rfl) (Nat.zero_le _) (Nat.zero_le _) dX3_record_9 rfl (fun v2 I3 P4 h5 => ?_)
    obtain ⟨h5v, eI3, eP4⟩ := h5
    refine fV_st (st' := []) (by rw [h5v]; rfl) ?_
    have hP1 : xRecP I P = P4 := by unfold xRecP; rw [if_pos (by omega), eP4]
    have hN1 : xRecN I = 4 := by unfold xRecN; rw [if_pos (by omega)]
    have hM3 : I3 0 3 = xRecN I := by rw [hN1, eI3, fup_s]
    have hMo : ∀ a : Nat, a ≠ 0 → I3 a = I a := fun a ha => by rw [eI3, fup_ne ha]
    have hM0 : ∀ b : Int, b ≠ 3 → I3 0 b = I 0 b := fun b hb => by rw [eI3, fup_j hb]
    have hnb : 0 ≤ xRecN I ∧ xRecN I < 5 := by omega
    have hhq : fHs P4 := by rw [← hP1]; unfold xRecP; split; exact fHs_rot hhs; exact hhs
    have hpq : fPa P4 := by rw [← hP1]; unfold xRecP; split; exact fPa_61 hpa; exact hpa
    have h2q : P4 (1 + 1) = P (1 + 1) := by first | rfl | (rw [← hP1]; unfold xRecP; split; exact pRot_o (by decide); rfl)
    refine fV_aload_n (pc' := 13) G 0 dX3_record_12 rfl rfl rfl ?_
    refine fV_get (K := 3) (v := .ref (Γ.1 61)) (pc' := 16) G kfX3_record_19 (by omega) rfl rfl rfl dX3_record_13 rfl ?_
    refine fV_aload_n (pc' := 17) G 0 dX3_record_16 rfl rfl rfl ?_
    refine fV_get (K := 3) (v := .int (i32 (I3 0 3))) (pc' := 20) G kfX3_record_23 (by omega) rfl rfl rfl dX3_record_17 rfl ?_
    refine fV_top (b := xRecN I) hM3 ?_
    refine fV_aald (K := 12) (n := 5) (t := 2) (pc' := 21) G (by omega) rfl (fun _ _ => rfl) rfl (by decide) (by omega) dX3_record_20 rfl ?_
    refine fV_aload_n (pc' := 22) G 0 dX3_record_21 rfl rfl rfl ?_
    refine fV_get (K := 3) (v := .ref (Γ.1 1)) (pc' := 25) G kfX3_record_10 (by omega) rfl rfl rfl dX3_record_22 rfl ?_
    have hcm : 0 ≤ I3 1 1 ∧ I3 1 1 ≤ 12 := by rw [hMo 1 (by decide)]; exact hc
    have hzm : ∀ w : Int, 0 ≤ w → w < I3 1 1 → I3 (P4 (1 + 1) w) 6 = 0 ∨ I3 (P4 (1 + 1) w) 6 = 1 := fun w h0 h1 => by rw [hMo 1 (by decide)] at h1; rw [h2q, hMo _ (by have := (fPs_w fSc_1 (hpa 1 fSc_1) h0 (by omega)).2.1; intro z; rw [z] at this; cases this)]; exact hz w h0 h1
    refine fV_callV (n := 1) (k := (P4 61 (xRecN I))) (K := 0) (As := [.ref (Γ.1 1)]) (rest := []) (pc' := 28) G (mX0_copyFrom l Γ hN I3 P4 (fHs_s hhq hnb.1 hnb.2) fSc_1 (by have := fHs_b hhq hnb.1 hnb.2; omega) (hpq _ (fHs_s hhq hnb.1 hnb.2)) (hpq _ fSc_1) hcm hzm) kcX3_record_107 (by have := fHs_b hhq hnb.1 hnb.2; omega) (fSc_k (fHs_s hhq hnb.1 hnb.2)).2.1 rfl rfl rfl (Nat.le_of_ble_eq_true rfl) (Nat.zero_le _) (Nat.zero_le _) dX3_record_25 rfl (fun v6 I7 P8 h9 => ?_)
    obtain ⟨h9v, eP8, hve, hou⟩ := h9
    refine fV_st (st' := []) (by rw [h9v]; rfl) ?_
    have hhb := fHs_b hhq hnb.1 hnb.2
    have hJ3 : I7 0 3 = xRecN I := by rw [hou 0 (by omega)]; exact hM3
    refine fV_aload_n (pc' := 29) G 0 dX3_record_28 rfl rfl rfl ?_
    refine fV_dup (pc' := 30) G dX3_record_29 rfl rfl ?_
    refine fV_get (K := 3) (v := .int (i32 (I7 0 3))) (pc' := 33) G kfX3_record_23 (by omega) rfl rfl rfl dX3_record_30 rfl ?_
    refine fV_top (b := xRecN I) hJ3 ?_
    refine fV_iconst (pc' := 34) G dX3_record_33 rfl ?_
    refine fV_iadd (pc' := 35) G dX3_record_34 rfl ?_
    refine fV_put (K := 3) (jj := 3) (x := (xRecN I) + 1) (v := .int (i32 ((xRecN I) + 1))) (ty := .int) (pc' := 38) G kfX3_record_23 (by omega) rfl rfl rfl kp3_3 rfl rfl (Nat.le_of_ble_eq_true rfl) dX3_record_35 rfl (fun I10 eI10 => ?_)
    refine fV_vret G dX3_record_38 ?_
    refine ⟨rfl, by rw [eP8]; exact hP1.symm, ?_, by rw [eI10, fup_s], fun b hb => ?_, fun a ha hb => ?_⟩
    · rw [eI10, eP8]; exact vEq_l (I := I) (fun a ha => (hMo a (by omega))) h2q (hpa 1 fSc_1) hc (vEq_r (fun a ha => fup_ne (by omega)) (by omega) (hpq _ (fHs_s hhq hnb.1 hnb.2)) hcm hve)
    · rw [eI10, fup_j hb, hou 0 (by omega)] <;> exact hM0 b hb
    · rw [eI10, fup_ne ha, hou a (by rw [eP8] at hb; exact hb)] <;> exact hMo a ha
set_option maxHeartbeats 4000000 in
set_option maxRecDepth 100000 in
theorem mX0_insertShot (l : Launch) (Γ : fG) {N : Nat} (hN : 214 ≤ N) (I : fM) (P : fN) {sc : Nat} (hs : fSc sc) (hv : fSv I sc) (hn : I sc 3 < 10) (f : Int) (h_f : -2147483648 ≤ f ∧ f ≤ 2147483647) : fMet l yX0_insertShot wsX0_insertShot rmX0_insertShot Γ N [.ref (Γ.1 sc), .int (i32 f)] I P (fE none (fup (fIns I (sc + 2) 0 (I sc 3) (pIns (fun i => I (sc + 2) i) f (I sc 3).toNat) f) sc 3 (I sc 3 + 1)) P) := by
  refine fMet_of (own := RX0) (cc := cX0_insertShot) (maxL := 3) (ret := none) rfl (by decide +kernel) rfl (Nat.le_of_ble_eq_true rfl) ?_
  intro p e s m args below meth c G
  obtain ⟨hs0, hs1, hs2, hs3, hs4, hs5, hs6⟩ := fSc_k hs
  have hn0 : sc < N := by omega
  have hn1 : sc + 1 < N := by omega
  have hn2 : sc + 2 < N := by omega
  obtain ⟨hv1, hv3, hv4, hvs⟩ := id hv
  refine fV_lv (lv' := [(0, .ref (Γ.1 sc)), (1, .int (i32 f))]) [0, 1] rfl ?_
  refine fV_aload_n (pc' := 1) G 0 dX0_insertShot_0 rfl rfl rfl ?_
  refine fV_get (K := 0) (v := .int (i32 (I sc 3))) (pc' := 4) G kfX0_insertShot_46 hn0 hs1 rfl rfl dX0_insertShot_1 rfl ?_
  refine fV_istore_n (lv' := [(2, .int (i32 (I sc 3))), (0, .ref (Γ.1 sc)), (1, .int (i32 f))]) (pc' := 5) G dX0_insertShot_4 rfl (by decide) rfl rfl ?_
  have lp : ∀ (z : Nat) (k : Int) (J : fM), 0 ≤ k ∧ k ≤ I sc 3 → J = fMov I (sc + 2) 0 (I sc 3) k → pIns (fun i => I (sc + 2) i) f (I sc 3).toNat = pIns (fun i => I (sc + 2) i) f k.toNat → (k.toNat) = z → fV p l e rmX0_insertShot s m args below meth c (MQ below (fQ Γ N (fE none (fup (fIns I (sc + 2) 0 (I sc 3) (pIns (fun i => I (sc + 2) i) f (I sc 3).toNat) f) sc 3 (I sc 3 + 1)) P)) args s 0 0 (fA Γ N)) (fA Γ N) Γ N 3 0 0 J P 5 [(0, .ref (Γ.1 sc)), (1, .int (i32 f)), (2, .int (i32 k))] [] := by
    intro z
    induction z using Nat.strongRecOn with
    | _ z ih_lp =>
      intro k J hk hJ hpi hz_lp
      refine fV_iload_n (pc' := 6) G 2 dX0_insertShot_5 rfl rfl rfl ?_
      refine fV_if_le (tgt := 41) (pc' := 9) G dX0_insertShot_6 (by decide) rfl (by omega) (fun c101 => ?_) (fun c101 => ?_)
      · refine fV_aload_n (pc' := 42) G 0 dX0_insertShot_41 rfl rfl rfl ?_
        refine fV_get (K := 0) (v := .ref (Γ.1 (sc + 2))) (pc' := 45) G kfX0_insertShot_17 hn0 hs1 rfl rfl dX0_insertShot_42 rfl ?_
        refine fV_iload_n (pc' := 46) G 2 dX0_insertShot_45 rfl rfl rfl ?_
        refine fV_iload_n (pc' := 47) G 1 dX0_insertShot_46 rfl rfl rfl ?_
        refine fV_iast (K := 6) (n := 10) (pc' := 48) G hn2 hs3 (fun _ _ => rfl) (by decide) (by omega) dX0_insertShot_47 rfl (fun I102 eI102 => ?_)
        refine fV_aload_n (pc' := 49) G 0 dX0_insertShot_48 rfl rfl rfl ?_
        refine fV_dup (pc' := 50) G dX0_insertShot_49 rfl rfl ?_
        refine fV_get (K := 0) (v := .int (i32 (I102 sc 3))) (pc' := 53) G kfX0_insertShot_46 hn0 hs1 rfl rfl dX0_insertShot_50 rfl ?_
        refine fV_top (b := I sc 3) (by rw [eI102, fup_k (by omega), hJ]; unfold fMov; rw [if_neg (by omega)]) ?_
        refine fV_iconst (pc' := 54) G dX0_insertShot_53 rfl ?_
        refine fV_iadd (pc' := 55) G dX0_insertShot_54 rfl ?_
        refine fV_put (K := 0) (jj := 3) (x := (I sc 3) + 1) (v := .int (i32 ((I sc 3) + 1))) (ty := .int) (pc' := 58) G kfX0_insertShot_46 hn0 hs1 rfl rfl kp0_3 rfl rfl (Nat.le_of_ble_eq_true rfl) dX0_insertShot_55 rfl (fun I103 eI103 => ?_)
        refine fV_vret G dX0_insertShot_58 ?_
        have hpk : (pIns (fun i => I (sc + 2) i) f (I sc 3).toNat : Int) = k := by rw [hpi]; exact pIns_stop (by omega) (by first | (left; omega) | (right; (try dsimp only); omega))
        exact fE_vm (by have e := fMov_e (I := I) (k := sc + 2) (o := 0) (n := I sc 3) (p := k) (f := f) (by omega); simp only [Int.zero_add] at e; rw [eI103, eI102, hJ, e, hpk]) rfl
      · refine fV_aload_n (pc' := 10) G 0 dX0_insertShot_9 rfl rfl rfl ?_
        refine fV_get (K := 0) (v := .ref (Γ.1 (sc + 2))) (pc' := 13) G kfX0_insertShot_17 hn0 hs1 rfl rfl dX0_insertShot_10 rfl ?_
        refine fV_iload_n (pc' := 14) G 2 dX0_insertShot_13 rfl rfl rfl ?_
        refine fV_iconst (pc' := 15) G dX0_insertShot_14 rfl ?_
        refine fV_isub (pc' := 16) G dX0_insertShot_15 rfl ?_
        refine fV_iald (K := 6) (n := 10) (pc' := 17) G hn2 hs3 (fun _ _ => rfl) (by decide) (by omega) dX0_insertShot_16 rfl ?_
        refine fV_top (b := I (sc + 2) (k - 1)) (by rw [hJ]; unfold fMov; rw [if_neg (by omega)]) ?_
        have hsb := hvs (k - 1) (by omega) (by omega)
        refine fV_iload_n (pc' := 18) G 1 dX0_insertShot_17 rfl rfl rfl ?_
        refine fV_icmp_le (tgt := 41) (pc' := 21) G dX0_insertShot_18 (by decide) rfl (by omega) (by omega) (fun c102 => ?_) (fun c102 => ?_)
        · refine fV_aload_n (pc' := 42) G 0 dX0_insertShot_41 rfl rfl rfl ?_
          refine fV_get (K := 0) (v := .ref (Γ.1 (sc + 2))) (pc' := 45) G kfX0_insertShot_17 hn0 hs1 rfl rfl dX0_insertShot_42 rfl ?_
          refine fV_iload_n (pc' := 46) G 2 dX0_insertShot_45 rfl rfl rfl ?_
          refine fV_iload_n (pc' := 47) G 1 dX0_insertShot_46 rfl rfl rfl ?_
          refine fV_iast (K := 6) (n := 10) (pc' := 48) G hn2 hs3 (fun _ _ => rfl) (by decide) (by omega) dX0_insertShot_47 rfl (fun I103 eI103 => ?_)
          refine fV_aload_n (pc' := 49) G 0 dX0_insertShot_48 rfl rfl rfl ?_
          refine fV_dup (pc' := 50) G dX0_insertShot_49 rfl rfl ?_
          refine fV_get (K := 0) (v := .int (i32 (I103 sc 3))) (pc' := 53) G kfX0_insertShot_46 hn0 hs1 rfl rfl dX0_insertShot_50 rfl ?_
          refine fV_top (b := I sc 3) (by rw [eI103, fup_k (by omega), hJ]; unfold fMov; rw [if_neg (by omega)]) ?_
          refine fV_iconst (pc' := 54) G dX0_insertShot_53 rfl ?_
          refine fV_iadd (pc' := 55) G dX0_insertShot_54 rfl ?_
          refine fV_put (K := 0) (jj := 3) (x := (I sc 3) + 1) (v := .int (i32 ((I sc 3) + 1))) (ty := .int) (pc' := 58) G kfX0_insertShot_46 hn0 hs1 rfl rfl kp0_3 rfl rfl (Nat.le_of_ble_eq_true rfl) dX0_insertShot_55 rfl (fun I104 eI104 => ?_)
          refine fV_vret G dX0_insertShot_58 ?_
          have hpk : (pIns (fun i => I (sc + 2) i) f (I sc 3).toNat : Int) = k := by rw [hpi]; exact pIns_stop (by omega) (by first | (left; omega) | (right; (try dsimp only); omega))
          exact fE_vm (by have e := fMov_e (I := I) (k := sc + 2) (o := 0) (n := I sc 3) (p := k) (f := f) (by omega); simp only [Int.zero_add] at e; rw [eI104, eI103, hJ, e, hpk]) rfl
        · refine fV_aload_n (pc' := 22) G 0 dX0_insertShot_21 rfl rfl rfl ?_
          refine fV_get (K := 0) (v := .ref (Γ.1 (sc + 2))) (pc' := 25) G kfX0_insertShot_17 hn0 hs1 rfl rfl dX0_insertShot_22 rfl ?_
          refine fV_iload_n (pc' := 26) G 2 dX0_insertShot_25 rfl rfl rfl ?_
          refine fV_aload_n (pc' := 27) G 0 dX0_insertShot_26 rfl rfl rfl ?_
          refine fV_get (K := 0) (v := .ref (Γ.1 (sc + 2))) (pc' := 30) G kfX0_insertShot_17 hn0 hs1 rfl rfl dX0_insertShot_27 rfl ?_
          refine fV_iload_n (pc' := 31) G 2 dX0_insertShot_30 rfl rfl rfl ?_
          refine fV_iconst (pc' := 32) G dX0_insertShot_31 rfl ?_
          refine fV_isub (pc' := 33) G dX0_insertShot_32 rfl ?_
          refine fV_iald (K := 6) (n := 10) (pc' := 34) G hn2 hs3 (fun _ _ => rfl) (by decide) (by omega) dX0_insertShot_33 rfl ?_
          refine fV_iast (K := 6) (n := 10) (pc' := 35) G hn2 hs3 (fun _ _ => rfl) (by decide) (by omega) dX0_insertShot_34 rfl (fun I103 eI103 => ?_)
          refine fV_iinc (lv' := [(2, .int (i32 (k + (-1)))), (0, .ref (Γ.1 sc)), (1, .int (i32 f))]) (pc' := 38) G 2 dX0_insertShot_35 rfl (by decide) rfl rfl ?_
          refine fV_goto (tgt := 5) G dX0_insertShot_38 (by decide) ?_
          refine fV_lv (lv' := [(0, .ref (Γ.1 sc)), (1, .int (i32 f)), (2, .int (i32 (k + (-1))))]) [1, 2, 0] rfl ?_
          exact ih_lp _ (by omega) (k + (-1)) I103 (by omega) (by rw [eI103, hJ]; have e := fMov_d (I := I) (k := sc + 2) (o := 0) (n := I sc 3) (p := k) (by omega); simp only [Int.zero_add] at e; exact e) (by rw [hpi, show k + (-1) = k - 1 by omega]; exact pIns_go (by omega) (by (try dsimp only); omega)) rfl
  refine fV_lv (lv' := [(0, .ref (Γ.1 sc)), (1, .int (i32 f)), (2, .int (i32 (I sc 3)))]) [1, 2, 0] rfl ?_
  exact lp _ (I sc 3) I (by omega) ((fMov_0 _ _ _ _).symm) rfl rfl
set_option maxHeartbeats 4000000 in
set_option maxRecDepth 100000 in
theorem mX0_deleteShot (l : Launch) (Γ : fG) {N : Nat} (hN : 214 ≤ N) (I : fM) (P : fN) {sc : Nat} (hs : fSc sc) (hv : fSv I sc) (f : Int) (h_f : -2147483648 ≤ f ∧ f ≤ 2147483647) (q : Int) (hq : (0 ≤ q ∧ q < I sc 3) ∧ I (sc + 2) q = f) (hd : ∀ i : Int, 0 ≤ i → i < I sc 3 → i ≠ q → I (sc + 2) i ≠ f) : fMet l yX0_deleteShot wsX0_deleteShot rmX0_deleteShot Γ N [.ref (Γ.1 sc), .int (i32 f)] I P (fE none (fup (fcpy I (sc + 2) (q + 1) (sc + 2) q (I sc 3 - 1 - q)) sc 3 (I sc 3 - 1)) P) := by
  refine fMet_of (own := RX0) (cc := cX0_deleteShot) (maxL := 4) (ret := none) rfl (by decide +kernel) rfl (Nat.le_of_ble_eq_true rfl) ?_
  intro p e s m args below meth c G
  obtain ⟨hs0, hs1, hs2, hs3, hs4, hs5, hs6⟩ := fSc_k hs
  have hn0 : sc < N := by omega
  have hn1 : sc + 1 < N := by omega
  have hn2 : sc + 2 < N := by omega
  obtain ⟨hv1, hv3, hv4, hvs⟩ := id hv
  refine fV_lv (lv' := [(0, .ref (Γ.1 sc)), (1, .int (i32 f))]) [0, 1] rfl ?_
  refine fV_iconst (pc' := 1) G dX0_deleteShot_0 rfl ?_
  refine fV_istore_n (lv' := [(2, .int (i32 0)), (0, .ref (Γ.1 sc)), (1, .int (i32 f))]) (pc' := 2) G dX0_deleteShot_1 rfl (by decide) rfl rfl ?_
  refine fV_iconst (pc' := 3) G dX0_deleteShot_2 rfl ?_
  refine fV_istore_n (lv' := [(3, .int (i32 0)), (2, .int (i32 0)), (0, .ref (Γ.1 sc)), (1, .int (i32 f))]) (pc' := 4) G dX0_deleteShot_3 rfl (by decide) rfl rfl ?_
  have lp : ∀ (z : Nat) (i : Int) (k : Int) (J : fM), 0 ≤ i ∧ i ≤ I sc 3 → ((i ≤ q ∧ k = i) ∨ (q < i ∧ k = i - 1)) → J = fcpy I (sc + 2) (q + 1) (sc + 2) q (i - 1 - q) → ((I sc 3 - i).toNat) = z → fV p l e rmX0_deleteShot s m args below meth c (MQ below (fQ Γ N (fE none (fup (fcpy I (sc + 2) (q + 1) (sc + 2) q (I sc 3 - 1 - q)) sc 3 (I sc 3 - 1)) P)) args s 0 0 (fA Γ N)) (fA Γ N) Γ N 4 0 0 J P 4 [(0, .ref (Γ.1 sc)), (1, .int (i32 f)), (2, .int (i32 k)), (3, .int (i32 i))] [] := by
    intro z
    induction z using Nat.strongRecOn with
    | _ z ih_lp =>
      intro i k J hi hk hJ hz_lp
      have hJ3 : J sc 3 = I sc 3 := by rw [hJ, fcpy_k (by omega)]
      have hJi : J (sc + 2) i = I (sc + 2) i := by rw [hJ]; unfold fcpy; rw [if_neg (by omega)]
      refine fV_iload_n (pc' := 5) G 3 dX0_deleteShot_4 rfl rfl rfl ?_
      refine fV_aload_n (pc' := 6) G 0 dX0_deleteShot_5 rfl rfl rfl ?_
      refine fV_get (K := 0) (v := .int (i32 (J sc 3))) (pc' := 9) G kfX0_deleteShot_46 hn0 hs1 rfl rfl dX0_deleteShot_6 rfl ?_
      refine fV_top (b := I sc 3) hJ3 ?_
      refine fV_icmp_ge (tgt := 43) (pc' := 12) G dX0_deleteShot_9 (by decide) rfl (by omega) (by omega) (fun c101 => ?_) (fun c101 => ?_)
      · refine fV_aload_n (pc' := 44) G 0 dX0_deleteShot_43 rfl rfl rfl ?_
        refine fV_iload_n (pc' := 45) G 2 dX0_deleteShot_44 rfl rfl rfl ?_
        refine fV_put (K := 0) (jj := 3) (x := k) (v := .int (i32 k)) (ty := .int) (pc' := 48) G kfX0_deleteShot_46 hn0 hs1 rfl rfl kp0_3 rfl rfl (Nat.le_of_ble_eq_true rfl) dX0_deleteShot_45 rfl (fun I102 eI102 => ?_)
        refine fV_vret G dX0_deleteShot_48 ?_
        exact fE_vm (by rw [eI102, hJ, show i = I sc 3 by omega, show k = I sc 3 - 1 by omega, show I sc 3 - 1 - q = I sc 3 - 1 - q from rfl]) rfl
      · refine fV_aload_n (pc' := 13) G 0 dX0_deleteShot_12 rfl rfl rfl ?_
        refine fV_get (K := 0) (v := .ref (Γ.1 (sc + 2))) (pc' := 16) G kfX0_deleteShot_17 hn0 hs1 rfl rfl dX0_deleteShot_13 rfl ?_
        refine fV_iload_n (pc' := 17) G 3 dX0_deleteShot_16 rfl rfl rfl ?_
        refine fV_iald (K := 6) (n := 10) (pc' := 18) G hn2 hs3 (fun _ _ => rfl) (by decide) (by omega) dX0_deleteShot_17 rfl ?_
        refine fV_top (b := I (sc + 2) i) hJi ?_
        have hsb := hvs i (by omega) (by omega)
        refine fV_iload_n (pc' := 19) G 1 dX0_deleteShot_18 rfl rfl rfl ?_
        refine fV_icmp_eq (tgt := 37) (pc' := 22) G dX0_deleteShot_19 (by decide) rfl (by omega) (by omega) (fun c102 => ?_) (fun c102 => ?_)
        · have hiq : i = q := by by_cases z : i = q; exact z; exact absurd c102 (hd i (by omega) (by omega) z)
          refine fV_iinc (lv' := [(3, .int (i32 (i + 1))), (0, .ref (Γ.1 sc)), (1, .int (i32 f)), (2, .int (i32 k))]) (pc' := 40) G 3 dX0_deleteShot_37 rfl (by decide) rfl rfl ?_
          refine fV_goto (tgt := 4) G dX0_deleteShot_40 (by decide) ?_
          refine fV_lv (lv' := [(0, .ref (Γ.1 sc)), (1, .int (i32 f)), (2, .int (i32 k)), (3, .int (i32 (i + 1)))]) [1, 2, 3, 0] rfl ?_
          exact ih_lp _ (by omega) (i + 1) k J (by omega) (by omega) (by rw [hJ]; exact ds_skip hiq) rfl
        · have hiq : i ≠ q := fun z => c102 (by rw [z]; exact hq.2)
          refine fV_aload_n (pc' := 23) G 0 dX0_deleteShot_22 rfl rfl rfl ?_
          refine fV_get (K := 0) (v := .ref (Γ.1 (sc + 2))) (pc' := 26) G kfX0_deleteShot_17 hn0 hs1 rfl rfl dX0_deleteShot_23 rfl ?_
          refine fV_iload_n (pc' := 27) G 2 dX0_deleteShot_26 rfl rfl rfl ?_
          refine fV_aload_n (pc' := 28) G 0 dX0_deleteShot_27 rfl rfl rfl ?_
          refine fV_get (K := 0) (v := .ref (Γ.1 (sc + 2))) (pc' := 31) G kfX0_deleteShot_17 hn0 hs1 rfl rfl dX0_deleteShot_28 rfl ?_
          refine fV_iload_n (pc' := 32) G 3 dX0_deleteShot_31 rfl rfl rfl ?_
          refine fV_iald (K := 6) (n := 10) (pc' := 33) G hn2 hs3 (fun _ _ => rfl) (by decide) (by omega) dX0_deleteShot_32 rfl ?_
          refine fV_iast (K := 6) (n := 10) (pc' := 34) G hn2 hs3 (fun _ _ => rfl) (by decide) (by omega) dX0_deleteShot_33 rfl (fun I103 eI103 => ?_)
          refine fV_iinc (lv' := [(2, .int (i32 (k + 1))), (0, .ref (Γ.1 sc)), (1, .int (i32 f)), (3, .int (i32 i))]) (pc' := 37) G 2 dX0_deleteShot_34 rfl (by decide) rfl rfl ?_
          refine fV_iinc (lv' := [(3, .int (i32 (i + 1))), (2, .int (i32 (k + 1))), (0, .ref (Γ.1 sc)), (1, .int (i32 f))]) (pc' := 40) G 3 dX0_deleteShot_37 rfl (by decide) rfl rfl ?_
          refine fV_goto (tgt := 4) G dX0_deleteShot_40 (by decide) ?_
          refine fV_lv (lv' := [(0, .ref (Γ.1 sc)), (1, .int (i32 f)), (2, .int (i32 (k + 1))), (3, .int (i32 (i + 1)))]) [2, 3, 1, 0] rfl ?_
          exact ih_lp _ (by omega) (i + 1) (k + 1) I103 (by omega) (by omega) (by rw [eI103, hJ]; exact ds_step hk hiq) rfl
  refine fV_lv (lv' := [(0, .ref (Γ.1 sc)), (1, .int (i32 f)), (2, .int (i32 0)), (3, .int (i32 0))]) [2, 3, 1, 0] rfl ?_
  exact lp _ 0 0 I (by omega) (Or.inl ⟨hq.1.1, rfl⟩) (ds_le (by omega)) rfl
set_option maxHeartbeats 4000000 in
set_option maxRecDepth 100000 in
theorem mX0_appendWord (l : Launch) (Γ : fG) {N : Nat} (hN : 214 ≤ N) (I : fM) (P : fN) {sc : Nat} (hs : fSc sc) (hp : fPs P sc) (hc : 0 ≤ I sc 1 ∧ I sc 1 < 12) (le f sp he way : Int) (hle : 0 ≤ le ∧ le ≤ 12) : fMet l yX0_appendWord wsX0_appendWord rmX0_appendWord Γ N [.ref (Γ.1 sc), .int (i32 le), .int (i32 f), .int (i32 sp), .int (i32 he), .int (i32 way)] I P (fE (some (.ref (Γ.1 (P (sc + 1) (I sc 1))))) (xApp I P sc le f sp he way) P) := by
  refine fMet_of (own := RX0) (cc := cX0_appendWord) (maxL := 8) (ret := (some (.object "VoiceWords$Word"))) rfl (by decide +kernel) rfl (Nat.le_of_ble_eq_true rfl) ?_
  intro p e s m args below meth c G
  obtain ⟨hs0, hs1, hs2, hs3, hs4, hs5, hs6⟩ := fSc_k hs
  have hn0 : sc < N := by omega
  have hn1 : sc + 1 < N := by omega
  have hn2 : sc + 2 < N := by omega
  obtain ⟨k, hke⟩ : ∃ k, k = P (sc + 1) (I sc 1) := ⟨_, rfl⟩
  have hkw := fPs_w hs hp (w := I sc 1) (by omega) (by omega)
  obtain ⟨j, hj, hje⟩ := hp.1 (I sc 1) (by omega) (by omega)
  rw [← hke] at hkw hje
  obtain ⟨hk0, hk1, hk2⟩ := hkw
  refine fV_lv (lv' := [(0, .ref (Γ.1 sc)), (1, .int (i32 le)), (2, .int (i32 f)), (3, .int (i32 sp)), (4, .int (i32 he)), (5, .int (i32 way))]) [0, 1, 2, 3, 4, 5] rfl ?_
  refine fV_aload_n (pc' := 1) G 0 dX0_appendWord_0 rfl rfl rfl ?_
  refine fV_get (K := 0) (v := .ref (Γ.1 (sc + 1))) (pc' := 4) G kfX0_appendWord_11 hn0 hs1 rfl rfl dX0_appendWord_1 rfl ?_
  refine fV_aload_n (pc' := 5) G 0 dX0_appendWord_4 rfl rfl rfl ?_
  refine fV_get (K := 0) (v := .int (i32 (I sc 1))) (pc' := 8) G kfX0_appendWord_33 hn0 hs1 rfl rfl dX0_appendWord_5 rfl ?_
  refine fV_aald (K := 11) (n := 12) (t := 1) (pc' := 9) G hn1 hs2 (fun _ _ => rfl) rfl (by decide) (by omega) dX0_appendWord_8 rfl ?_
  refine fV_st (st' := [.ref (Γ.1 k)]) (by rw [hke]) ?_
  refine fV_astore (lv' := [(6, .ref (Γ.1 k)), (0, .ref (Γ.1 sc)), (1, .int (i32 le)), (2, .int (i32 f)), (3, .int (i32 sp)), (4, .int (i32 he)), (5, .int (i32 way))]) (pc' := 11) G dX0_appendWord_9 (by decide) rfl rfl ?_
  refine fV_iconst (pc' := 12) G dX0_appendWord_11 rfl ?_
  refine fV_istore (lv' := [(7, .int (i32 0)), (6, .ref (Γ.1 k)), (0, .ref (Γ.1 sc)), (1, .int (i32 le)), (2, .int (i32 f)), (3, .int (i32 sp)), (4, .int (i32 he)), (5, .int (i32 way))]) (pc' := 14) G dX0_appendWord_12 (by decide) rfl rfl ?_
  have lp : ∀ (z : Nat) (i : Int) (J : fM), 0 ≤ i ∧ i ≤ le → J = mLet I (k + 1) 0 i → ((le - i).toNat) = z → fV p l e rmX0_appendWord s m args below meth c (MQ below (fQ Γ N (fE (some (.ref (Γ.1 (P (sc + 1) (I sc 1))))) (xApp I P sc le f sp he way) P)) args s 0 0 (fA Γ N)) (fA Γ N) Γ N 8 0 0 J P 14 [(0, .ref (Γ.1 sc)), (1, .int (i32 le)), (2, .int (i32 f)), (3, .int (i32 sp)), (4, .int (i32 he)), (5, .int (i32 way)), (6, .ref (Γ.1 k)), (7, .int (i32 i))] [] := by
    intro z
    induction z using Nat.strongRecOn with
    | _ z ih_lp =>
      intro i J hi hJ hz_lp
      refine fV_iload (pc' := 16) G 7 dX0_appendWord_14 rfl rfl ?_
      refine fV_iload_n (pc' := 17) G 1 dX0_appendWord_16 rfl rfl rfl ?_
      refine fV_icmp_ge (tgt := 39) (pc' := 20) G dX0_appendWord_17 (by decide) rfl (by omega) (by omega) (fun c101 => ?_) (fun c101 => ?_)
      · refine fV_aload (pc' := 41) G 6 dX0_appendWord_39 rfl rfl ?_
        refine fV_iload_n (pc' := 42) G 1 dX0_appendWord_41 rfl rfl rfl ?_
        refine fV_put (K := 2) (jj := 1) (x := le) (v := .int (i32 le)) (ty := .int) (pc' := 45) G kfX0_appendWord_52 (by omega) hk1 rfl rfl kp2_1 rfl rfl (Nat.le_of_ble_eq_true rfl) dX0_appendWord_42 rfl (fun I102 eI102 => ?_)
        refine fV_aload (pc' := 47) G 6 dX0_appendWord_45 rfl rfl ?_
        refine fV_iload_n (pc' := 48) G 2 dX0_appendWord_47 rfl rfl rfl ?_
        refine fV_put (K := 2) (jj := 2) (x := f) (v := .int (i32 f)) (ty := .int) (pc' := 51) G kfX0_appendWord_55 (by omega) hk1 rfl rfl kp2_2 rfl rfl (Nat.le_of_ble_eq_true rfl) dX0_appendWord_48 rfl (fun I103 eI103 => ?_)
        refine fV_aload (pc' := 53) G 6 dX0_appendWord_51 rfl rfl ?_
        refine fV_iload_n (pc' := 54) G 3 dX0_appendWord_53 rfl rfl rfl ?_
        refine fV_put (K := 2) (jj := 3) (x := sp) (v := .int (i32 sp)) (ty := .int) (pc' := 57) G kfX0_appendWord_58 (by omega) hk1 rfl rfl kp2_3 rfl rfl (Nat.le_of_ble_eq_true rfl) dX0_appendWord_54 rfl (fun I104 eI104 => ?_)
        refine fV_aload (pc' := 59) G 6 dX0_appendWord_57 rfl rfl ?_
        refine fV_iload (pc' := 61) G 4 dX0_appendWord_59 rfl rfl ?_
        refine fV_put (K := 2) (jj := 4) (x := he) (v := .int (i32 he)) (ty := .int) (pc' := 64) G kfX0_appendWord_61 (by omega) hk1 rfl rfl kp2_4 rfl rfl (Nat.le_of_ble_eq_true rfl) dX0_appendWord_61 rfl (fun I105 eI105 => ?_)
        refine fV_aload (pc' := 66) G 6 dX0_appendWord_64 rfl rfl ?_
        refine fV_iload (pc' := 68) G 5 dX0_appendWord_66 rfl rfl ?_
        refine fV_put (K := 2) (jj := 5) (x := way) (v := .int (i32 way)) (ty := .int) (pc' := 71) G kfX0_appendWord_64 (by omega) hk1 rfl rfl kp2_5 rfl rfl (Nat.le_of_ble_eq_true rfl) dX0_appendWord_68 rfl (fun I106 eI106 => ?_)
        refine fV_aload (pc' := 73) G 6 dX0_appendWord_71 rfl rfl ?_
        refine fV_iconst (pc' := 74) G dX0_appendWord_73 rfl ?_
        refine fV_put (K := 2) (jj := 6) (x := 0) (v := .int (i32 0)) (ty := .boolean) (pc' := 77) G kfX0_appendWord_67 (by omega) hk1 rfl rfl kp2_6 rfl rfl (Nat.le_of_ble_eq_true rfl) dX0_appendWord_74 rfl (fun I107 eI107 => ?_)
        refine fV_aload_n (pc' := 78) G 0 dX0_appendWord_77 rfl rfl rfl ?_
        refine fV_dup (pc' := 79) G dX0_appendWord_78 rfl rfl ?_
        refine fV_get (K := 0) (v := .int (i32 (I107 sc 1))) (pc' := 82) G kfX0_appendWord_33 hn0 hs1 rfl rfl dX0_appendWord_79 rfl ?_
        refine fV_top (b := I sc 1) (by rw [eI107, fup_k (by omega), eI106, fup_k (by omega), eI105, fup_k (by omega), eI104, fup_k (by omega), eI103, fup_k (by omega), eI102, fup_k (by omega), hJ, mLet_k (by omega)]) ?_
        refine fV_iconst (pc' := 83) G dX0_appendWord_82 rfl ?_
        refine fV_iadd (pc' := 84) G dX0_appendWord_83 rfl ?_
        refine fV_put (K := 0) (jj := 1) (x := (I sc 1) + 1) (v := .int (i32 ((I sc 1) + 1))) (ty := .int) (pc' := 87) G kfX0_appendWord_33 hn0 hs1 rfl rfl kp0_1 rfl rfl (Nat.le_of_ble_eq_true rfl) dX0_appendWord_84 rfl (fun I108 eI108 => ?_)
        refine fV_aload (pc' := 89) G 6 dX0_appendWord_87 rfl rfl ?_
        refine fV_aret G rfl dX0_appendWord_89 ?_
        exact ⟨by rw [hke], by unfold xApp; rw [eI108, eI107, eI106, eI105, eI104, eI103, eI102, hJ, show i = le by omega, hke], rfl⟩
      · refine fV_aload (pc' := 22) G 6 dX0_appendWord_20 rfl rfl ?_
        refine fV_get (K := 2) (v := .ref (Γ.1 (k + 1))) (pc' := 25) G kfX0_appendWord_49 (by omega) hk1 rfl rfl dX0_appendWord_22 rfl ?_
        refine fV_iload (pc' := 27) G 7 dX0_appendWord_25 rfl rfl ?_
        refine fV_bipush (n := 97) (pc' := 29) G dX0_appendWord_27 rfl rfl ?_
        refine fV_iload (pc' := 31) G 7 dX0_appendWord_29 rfl rfl ?_
        refine fV_iadd (pc' := 32) G dX0_appendWord_31 rfl ?_
        refine fV_iast (K := 5) (n := 12) (pc' := 33) G (by omega) hk2 (fun _ _ => rfl) (by decide) (by omega) dX0_appendWord_32 rfl (fun I102 eI102 => ?_)
        refine fV_iinc (lv' := [(7, .int (i32 (i + 1))), (0, .ref (Γ.1 sc)), (1, .int (i32 le)), (2, .int (i32 f)), (3, .int (i32 sp)), (4, .int (i32 he)), (5, .int (i32 way)), (6, .ref (Γ.1 k))]) (pc' := 36) G 7 dX0_appendWord_33 rfl (by decide) rfl rfl ?_
        refine fV_goto (tgt := 14) G dX0_appendWord_36 (by decide) ?_
        refine fV_lv (lv' := [(0, .ref (Γ.1 sc)), (1, .int (i32 le)), (2, .int (i32 f)), (3, .int (i32 sp)), (4, .int (i32 he)), (5, .int (i32 way)), (6, .ref (Γ.1 k)), (7, .int (i32 (i + 1)))]) [1, 2, 3, 4, 5, 6, 7, 0] rfl ?_
        exact ih_lp _ (by omega) (i + 1) I102 (by omega) (by rw [eI102, hJ]; have e := mLet_s (I := I) (k := k + 1) (o := 0) (n := i) (by omega); rw [Int.zero_add] at e; exact e) rfl
  refine fV_lv (lv' := [(0, .ref (Γ.1 sc)), (1, .int (i32 le)), (2, .int (i32 f)), (3, .int (i32 sp)), (4, .int (i32 he)), (5, .int (i32 way)), (6, .ref (Γ.1 k)), (7, .int (i32 0))]) [2, 3, 4, 5, 6, 7, 1, 0] rfl ?_
  exact lp _ 0 I (by omega) ((mLet_0 _ _ _).symm) rfl
set_option maxHeartbeats 4000000 in
set_option maxRecDepth 100000 in
theorem mX0_deleteWord (l : Launch) (Γ : fG) {N : Nat} (hN : 214 ≤ N) (I : fM) (P : fN) {sc : Nat} (hs : fSc sc) (hp : fPs P sc) (hc : 0 ≤ I sc 1 ∧ I sc 1 ≤ 12) (x : Int) (hx : 0 ≤ x ∧ x < I sc 1) : fMet l yX0_deleteWord wsX0_deleteWord rmX0_deleteWord Γ N [.ref (Γ.1 sc), .int (i32 x)] I P (fE none (fup I sc 1 (I sc 1 - 1)) (pRot P (sc + 1) x (I sc 1 - 1))) := by
  refine fMet_of (own := RX0) (cc := cX0_deleteWord) (maxL := 4) (ret := none) rfl (by decide +kernel) rfl (Nat.le_of_ble_eq_true rfl) ?_
  intro p e s m args below meth c G
  obtain ⟨hs0, hs1, hs2, hs3, hs4, hs5, hs6⟩ := fSc_k hs
  have hn0 : sc < N := by omega
  have hn1 : sc + 1 < N := by omega
  have hn2 : sc + 2 < N := by omega
  obtain ⟨k, hke⟩ : ∃ k, k = P (sc + 1) x := ⟨_, rfl⟩
  have hkw := fPs_w hs hp (w := x) (by omega) (by omega)
  rw [← hke] at hkw
  obtain ⟨hk0, hk1, hk2⟩ := hkw
  refine fV_lv (lv' := [(0, .ref (Γ.1 sc)), (1, .int (i32 x))]) [0, 1] rfl ?_
  refine fV_aload_n (pc' := 1) G 0 dX0_deleteWord_0 rfl rfl rfl ?_
  refine fV_get (K := 0) (v := .ref (Γ.1 (sc + 1))) (pc' := 4) G kfX0_deleteWord_11 hn0 hs1 rfl rfl dX0_deleteWord_1 rfl ?_
  refine fV_iload_n (pc' := 5) G 1 dX0_deleteWord_4 rfl rfl rfl ?_
  refine fV_aald (K := 11) (n := 12) (t := 1) (pc' := 6) G hn1 hs2 (fun _ _ => rfl) rfl (by decide) (by omega) dX0_deleteWord_5 rfl ?_
  refine fV_st (st' := [.ref (Γ.1 k)]) (by rw [hke]) ?_
  refine fV_astore_n (lv' := [(2, .ref (Γ.1 k)), (0, .ref (Γ.1 sc)), (1, .int (i32 x))]) (pc' := 7) G dX0_deleteWord_6 rfl (by decide) rfl rfl ?_
  refine fV_iload_n (pc' := 8) G 2 dX0_deleteWord_7 rfl rfl rfl ?_
  refine fV_iconst (pc' := 9) G dX0_deleteWord_8 rfl ?_
  refine fV_iadd (pc' := 10) G dX0_deleteWord_9 rfl ?_
  refine fV_istore_n (lv' := [(3, .int (i32 (x + 1))), (2, .ref (Γ.1 k)), (0, .ref (Γ.1 sc)), (1, .int (i32 x))]) (pc' := 11) G dX0_deleteWord_10 rfl (by decide) rfl rfl ?_
  have lp : ∀ (z : Nat) (i : Int) (Q : fN), x + 1 ≤ i ∧ i ≤ I sc 1 → Q = pShl P (sc + 1) x (i - 1) → ((I sc 1 - i).toNat) = z → fV p l e rmX0_deleteWord s m args below meth c (MQ below (fQ Γ N (fE none (fup I sc 1 (I sc 1 - 1)) (pRot P (sc + 1) x (I sc 1 - 1)))) args s 0 0 (fA Γ N)) (fA Γ N) Γ N 4 0 0 I Q 11 [(0, .ref (Γ.1 sc)), (1, .int (i32 x)), (2, .ref (Γ.1 k)), (3, .int (i32 i))] [] := by
    intro z
    induction z using Nat.strongRecOn with
    | _ z ih_lp =>
      intro i Q hi hQ hz_lp
      have hqi : ∀ b : Int, i - 1 ≤ b → Q (sc + 1) b = P (sc + 1) b := fun b hb => by rw [hQ]; unfold pShl; rw [if_neg (by omega)]
      have hqs : ∀ b : Int, i - 1 ≤ b → b < 12 → fWd (Q (sc + 1) b) := fun b hb hb2 => by rw [hqi b hb]; exact fPs_w hs hp (by omega) hb2
      refine fV_iload_n (pc' := 12) G 3 dX0_deleteWord_11 rfl rfl rfl ?_
      refine fV_aload_n (pc' := 13) G 0 dX0_deleteWord_12 rfl rfl rfl ?_
      refine fV_get (K := 0) (v := .int (i32 (I sc 1))) (pc' := 16) G kfX0_deleteWord_33 hn0 hs1 rfl rfl dX0_deleteWord_13 rfl ?_
      refine fV_icmp_ge (tgt := 39) (pc' := 19) G dX0_deleteWord_16 (by decide) rfl (by omega) (by omega) (fun c101 => ?_) (fun c101 => ?_)
      · refine fV_aload_n (pc' := 40) G 0 dX0_deleteWord_39 rfl rfl rfl ?_
        refine fV_dup (pc' := 41) G dX0_deleteWord_40 rfl rfl ?_
        refine fV_get (K := 0) (v := .int (i32 (I sc 1))) (pc' := 44) G kfX0_deleteWord_33 hn0 hs1 rfl rfl dX0_deleteWord_41 rfl ?_
        refine fV_iconst (pc' := 45) G dX0_deleteWord_44 rfl ?_
        refine fV_isub (pc' := 46) G dX0_deleteWord_45 rfl ?_
        refine fV_put (K := 0) (jj := 1) (x := (I sc 1) - 1) (v := .int (i32 ((I sc 1) - 1))) (ty := .int) (pc' := 49) G kfX0_deleteWord_33 hn0 hs1 rfl rfl kp0_1 rfl rfl (Nat.le_of_ble_eq_true rfl) dX0_deleteWord_46 rfl (fun I102 eI102 => ?_)
        refine fV_aload_n (pc' := 50) G 0 dX0_deleteWord_49 rfl rfl rfl ?_
        refine fV_get (K := 0) (v := .ref (Γ.1 (sc + 1))) (pc' := 53) G kfX0_deleteWord_11 hn0 hs1 rfl rfl dX0_deleteWord_50 rfl ?_
        refine fV_aload_n (pc' := 54) G 0 dX0_deleteWord_53 rfl rfl rfl ?_
        refine fV_get (K := 0) (v := .int (i32 (I102 sc 1))) (pc' := 57) G kfX0_deleteWord_33 hn0 hs1 rfl rfl dX0_deleteWord_54 rfl ?_
        refine fV_top (b := I sc 1 - 1) (by rw [eI102, fup_s]) ?_
        refine fV_aload_n (pc' := 58) G 2 dX0_deleteWord_57 rfl rfl rfl ?_
        refine fV_aast (K := 11) (K2 := 2) (n := 12) (t := 1) (pc' := 59) G hn1 hs2 (fun _ _ => rfl) (by omega) hk1 rfl rfl rfl (by decide) (by omega) dX0_deleteWord_58 rfl (fun P103 eP103 => ?_)
        refine fV_vret G dX0_deleteWord_59 ?_
        exact fE_vm (by rw [eI102]) (by rw [eP103, hQ, show i - 1 = I sc 1 - 1 by omega, hke, pRot_e])
      · refine fV_aload_n (pc' := 20) G 0 dX0_deleteWord_19 rfl rfl rfl ?_
        refine fV_get (K := 0) (v := .ref (Γ.1 (sc + 1))) (pc' := 23) G kfX0_deleteWord_11 hn0 hs1 rfl rfl dX0_deleteWord_20 rfl ?_
        refine fV_iload_n (pc' := 24) G 3 dX0_deleteWord_23 rfl rfl rfl ?_
        refine fV_iconst (pc' := 25) G dX0_deleteWord_24 rfl ?_
        refine fV_isub (pc' := 26) G dX0_deleteWord_25 rfl ?_
        refine fV_aload_n (pc' := 27) G 0 dX0_deleteWord_26 rfl rfl rfl ?_
        refine fV_get (K := 0) (v := .ref (Γ.1 (sc + 1))) (pc' := 30) G kfX0_deleteWord_11 hn0 hs1 rfl rfl dX0_deleteWord_27 rfl ?_
        refine fV_iload_n (pc' := 31) G 3 dX0_deleteWord_30 rfl rfl rfl ?_
        refine fV_aald (K := 11) (n := 12) (t := 1) (pc' := 32) G hn1 hs2 (fun _ _ => rfl) rfl (by decide) (by omega) dX0_deleteWord_31 rfl ?_
        refine fV_aast (K := 11) (K2 := 2) (n := 12) (t := 1) (pc' := 33) G hn1 hs2 (fun _ _ => rfl) (by have := (hqs i (by omega) (by omega)).1; omega) (hqs i (by omega) (by omega)).2.1 rfl rfl rfl (by decide) (by omega) dX0_deleteWord_32 rfl (fun P102 eP102 => ?_)
        refine fV_iinc (lv' := [(3, .int (i32 (i + 1))), (0, .ref (Γ.1 sc)), (1, .int (i32 x)), (2, .ref (Γ.1 k))]) (pc' := 36) G 3 dX0_deleteWord_33 rfl (by decide) rfl rfl ?_
        refine fV_goto (tgt := 11) G dX0_deleteWord_36 (by decide) ?_
        refine fV_lv (lv' := [(0, .ref (Γ.1 sc)), (1, .int (i32 x)), (2, .ref (Γ.1 k)), (3, .int (i32 (i + 1)))]) [1, 2, 3, 0] rfl ?_
        exact ih_lp _ (by omega) (i + 1) P102 (by omega) (by rw [eP102, hQ]; have e := pShl_s (P := P) (k := sc + 1) (a := x) (n := i - 1) (by omega); rw [show i - 1 + 1 = i by omega] at e; rw [e, show i + 1 - 1 = i by omega]) rfl
  refine fV_lv (lv' := [(0, .ref (Γ.1 sc)), (1, .int (i32 x)), (2, .ref (Γ.1 k)), (3, .int (i32 (x + 1)))]) [2, 3, 1, 0] rfl ?_
  exact lp _ (x + 1) P (by omega) (by rw [show x + 1 - 1 = x by omega]; exact (pShl_0 _ _ _).symm) rfl
set_option maxHeartbeats 4000000 in
set_option maxRecDepth 100000 in
theorem mX0_takeAllWords (l : Launch) (Γ : fG) {N : Nat} (hN : 214 ≤ N) (I : fM) (P : fN) {sc : Nat} (hs : fSc sc) (hp : fPs P sc) (hc : 0 ≤ I sc 1 ∧ I sc 1 ≤ 12) : fMet l yX0_takeAllWords wsX0_takeAllWords rmX0_takeAllWords Γ N [.ref (Γ.1 sc)] I P (fE none (xTake I P sc (I sc 1)) P) := by
  refine fMet_of (own := RX0) (cc := cX0_takeAllWords) (maxL := 2) (ret := none) rfl (by decide +kernel) rfl (Nat.le_of_ble_eq_true rfl) ?_
  intro p e s m args below meth c G
  obtain ⟨hs0, hs1, hs2, hs3, hs4, hs5, hs6⟩ := fSc_k hs
  have hn0 : sc < N := by omega
  have hn1 : sc + 1 < N := by omega
  have hn2 : sc + 2 < N := by omega
  refine fV_lv (lv' := [(0, .ref (Γ.1 sc))]) [0] rfl ?_
  refine fV_iconst (pc' := 1) G dX0_takeAllWords_0 rfl ?_
  refine fV_istore_n (lv' := [(1, .int (i32 0)), (0, .ref (Γ.1 sc))]) (pc' := 2) G dX0_takeAllWords_1 rfl (by decide) rfl rfl ?_
  have lp : ∀ (z : Nat) (i : Int) (J : fM), 0 ≤ i ∧ i ≤ I sc 1 → J = xTake I P sc i → ((I sc 1 - i).toNat) = z → fV p l e rmX0_takeAllWords s m args below meth c (MQ below (fQ Γ N (fE none (xTake I P sc (I sc 1)) P)) args s 0 0 (fA Γ N)) (fA Γ N) Γ N 2 0 0 J P 2 [(0, .ref (Γ.1 sc)), (1, .int (i32 i))] [] := by
    intro z
    induction z using Nat.strongRecOn with
    | _ z ih_lp =>
      intro i J hi hJ hz_lp
      have hJ1 : J sc 1 = I sc 1 := by rw [hJ, xTake_k (by decide)]
      refine fV_iload_n (pc' := 3) G 1 dX0_takeAllWords_2 rfl rfl rfl ?_
      refine fV_aload_n (pc' := 4) G 0 dX0_takeAllWords_3 rfl rfl rfl ?_
      refine fV_get (K := 0) (v := .int (i32 (J sc 1))) (pc' := 7) G kfX0_takeAllWords_33 hn0 hs1 rfl rfl dX0_takeAllWords_4 rfl ?_
      refine fV_top (b := I sc 1) hJ1 ?_
      refine fV_icmp_ge (tgt := 26) (pc' := 10) G dX0_takeAllWords_7 (by decide) rfl (by omega) (by omega) (fun c101 => ?_) (fun c101 => ?_)
      · refine fV_vret G dX0_takeAllWords_26 ?_
        exact fE_vm (by rw [hJ, show i = I sc 1 by omega]) rfl
      · refine fV_aload_n (pc' := 11) G 0 dX0_takeAllWords_10 rfl rfl rfl ?_
        refine fV_get (K := 0) (v := .ref (Γ.1 (sc + 1))) (pc' := 14) G kfX0_takeAllWords_11 hn0 hs1 rfl rfl dX0_takeAllWords_11 rfl ?_
        refine fV_iload_n (pc' := 15) G 1 dX0_takeAllWords_14 rfl rfl rfl ?_
        refine fV_aald (K := 11) (n := 12) (t := 1) (pc' := 16) G hn1 hs2 (fun _ _ => rfl) rfl (by decide) (by omega) dX0_takeAllWords_15 rfl ?_
        refine fV_iconst (pc' := 17) G dX0_takeAllWords_16 rfl ?_
        refine fV_put (K := 2) (jj := 6) (x := 0) (v := .int (i32 0)) (ty := .boolean) (pc' := 20) G kfX0_takeAllWords_67 (by have := (fPs_w hs hp (w := i) (by omega) (by omega)).1; omega) (fPs_w hs hp (by omega) (by omega)).2.1 rfl rfl kp2_6 rfl rfl (Nat.le_of_ble_eq_true rfl) dX0_takeAllWords_17 rfl (fun I102 eI102 => ?_)
        refine fV_iinc (lv' := [(1, .int (i32 (i + 1))), (0, .ref (Γ.1 sc))]) (pc' := 23) G 1 dX0_takeAllWords_20 rfl (by decide) rfl rfl ?_
        refine fV_goto (tgt := 2) G dX0_takeAllWords_23 (by decide) ?_
        refine fV_lv (lv' := [(0, .ref (Γ.1 sc)), (1, .int (i32 (i + 1)))]) [1, 0] rfl ?_
        exact ih_lp _ (by omega) (i + 1) I102 (by omega) (by rw [eI102, hJ]; exact xTake_s (by omega)) rfl
  refine fV_lv (lv' := [(0, .ref (Γ.1 sc)), (1, .int (i32 0))]) [1, 0] rfl ?_
  exact lp _ 0 I (by omega) ((xTake_0 _ _ _).symm) rfl
set_option maxHeartbeats 4000000 in
set_option maxRecDepth 100000 in
theorem mX0_isFree (l : Launch) (Γ : fG) {N : Nat} (hN : 214 ≤ N) (I : fM) (P : fN) {sc : Nat} (hs : fSc sc) (hv : fSv I sc) (hp : fPs P sc) (hww : ∀ w : Int, 0 ≤ w → w < I sc 1 → fWv I (P (sc + 1) w)) (x f la co : Int) (hx : 0 ≤ x ∧ x < I sc 1) (hf : 0 ≤ f ∧ f ≤ 2000) (hla : 0 ≤ la ∧ la ≤ 7) (hco : 0 ≤ co ∧ co + I (P (sc + 1) x) 1 ≤ 40) : fMet l yX0_isFree wsX0_isFree rmX0_isFree Γ N [.ref (Γ.1 sc), .int (i32 x), .int (i32 f), .int (i32 la), .int (i32 co)] I P (fE (some (.int (i32 (fB (xFreeB I P sc x f la co))))) (xTry I sc (P (sc + 1) x) f la co) P) := by
  refine fMet_of (own := RX0) (cc := cX0_isFree) (maxL := 6) (ret := (some .boolean)) rfl (by decide +kernel) rfl (Nat.le_of_ble_eq_true rfl) ?_
  intro p e s m args below meth c G
  obtain ⟨hs0, hs1, hs2, hs3, hs4, hs5, hs6⟩ := fSc_k hs
  have hn0 : sc < N := by omega
  have hn1 : sc + 1 < N := by omega
  have hn2 : sc + 2 < N := by omega
  obtain ⟨hv1, hv3, hv4, hvs⟩ := id hv
  obtain ⟨k, hke⟩ : ∃ k, k = P (sc + 1) x := ⟨_, rfl⟩
  have hkw := fPs_w hs hp (w := x) (by omega) (by omega)
  have hwk := hww x (by omega) (by omega)
  have hz := hwk.2.2.2.2.2.1
  obtain ⟨j, hj, hje⟩ := hp.1 x (by omega) (by omega)
  rw [← hke] at hkw hwk hje hco
  obtain ⟨hk0, hk1, hk2⟩ := id hkw
  refine fV_lv (lv' := [(0, .ref (Γ.1 sc)), (1, .int (i32 x)), (2, .int (i32 f)), (3, .int (i32 la)), (4, .int (i32 co))]) [0, 1, 2, 3, 4] rfl ?_
  refine fV_aload_n (pc' := 1) G 0 dX0_isFree_0 rfl rfl rfl ?_
  refine fV_get (K := 0) (v := .ref (Γ.1 (sc + 3))) (pc' := 4) G kfX0_isFree_26 hn0 hs1 rfl rfl dX0_isFree_1 rfl ?_
  refine fV_aload_n (pc' := 5) G 0 dX0_isFree_4 rfl rfl rfl ?_
  refine fV_get (K := 0) (v := .ref (Γ.1 (sc + 1))) (pc' := 8) G kfX0_isFree_11 hn0 hs1 rfl rfl dX0_isFree_5 rfl ?_
  refine fV_iload_n (pc' := 9) G 1 dX0_isFree_8 rfl rfl rfl ?_
  refine fV_aald (K := 11) (n := 12) (t := 1) (pc' := 10) G hn1 hs2 (fun _ _ => rfl) rfl (by decide) (by omega) dX0_isFree_9 rfl ?_
  refine fV_st (st' := [.ref (Γ.1 k), .ref (Γ.1 (sc + 3))]) (by rw [hke]) ?_
  obtain ⟨I1, eI1⟩ : ∃ J9 : fM, J9 = fcw I (sc + 3) k := ⟨_, rfl⟩
  refine fV_callVf (I' := I1) (st' := []) (n := 1) (k := (sc + 3)) (K := 2) (As := [.ref (Γ.1 k)]) (rest := []) (pc' := 13) G (by rw [eI1]; exact mX2_copyFrom l Γ hN I P (fSc_t hs) hkw (by omega) (by rw [← hke] at hz; exact hz)) kcX0_isFree_36 (by omega) hs4 rfl rfl rfl (Nat.le_of_ble_eq_true rfl) (Nat.zero_le _) (Nat.zero_le _) dX0_isFree_10 rfl rfl ?_
  refine fV_aload_n (pc' := 14) G 0 dX0_isFree_13 rfl rfl rfl ?_
  refine fV_get (K := 0) (v := .ref (Γ.1 (sc + 3))) (pc' := 17) G kfX0_isFree_26 hn0 hs1 rfl rfl dX0_isFree_14 rfl ?_
  refine fV_iload_n (pc' := 18) G 2 dX0_isFree_17 rfl rfl rfl ?_
  refine fV_put (K := 2) (jj := 2) (x := f) (v := .int (i32 f)) (ty := .int) (pc' := 21) G kfX0_isFree_55 (by omega) hs4 rfl rfl kp2_2 rfl rfl (Nat.le_of_ble_eq_true rfl) dX0_isFree_18 rfl (fun I2 eI2 => ?_)
  refine fV_aload_n (pc' := 22) G 0 dX0_isFree_21 rfl rfl rfl ?_
  refine fV_get (K := 0) (v := .ref (Γ.1 (sc + 3))) (pc' := 25) G kfX0_isFree_26 hn0 hs1 rfl rfl dX0_isFree_22 rfl ?_
  refine fV_iload_n (pc' := 26) G 3 dX0_isFree_25 rfl rfl rfl ?_
  refine fV_iload (pc' := 28) G 4 dX0_isFree_26 rfl rfl ?_
  obtain ⟨I3, eI3⟩ : ∃ J9 : fM, J9 = fup (fup (fup I2 (sc + 3) 6 1) (sc + 3) 7 la) (sc + 3) 8 co := ⟨_, rfl⟩
  refine fV_callVf (I' := I3) (st' := []) (n := 2) (k := (sc + 3)) (K := 2) (As := [.int (i32 la), .int (i32 co)]) (rest := []) (pc' := 31) G (by rw [eI3]; exact mX2_putAt l Γ hN I2 P (fSc_t hs) la co) kcX0_isFree_132 (by omega) hs4 rfl rfl rfl (Nat.le_of_ble_eq_true rfl) (Nat.zero_le _) (Nat.zero_le _) dX0_isFree_28 rfl rfl ?_
  refine fV_iconst (pc' := 32) G dX0_isFree_31 rfl ?_
  refine fV_istore (lv' := [(5, .int (i32 0)), (0, .ref (Γ.1 sc)), (1, .int (i32 x)), (2, .int (i32 f)), (3, .int (i32 la)), (4, .int (i32 co))]) (pc' := 34) G dX0_isFree_32 (by decide) rfl rfl ?_
  obtain ⟨J, hJe⟩ : ∃ J : fM, J = xTry I sc k f la co := ⟨_, rfl⟩
  refine fV_mem (I' := J) (P' := P) (by rw [hJe, eI3, eI2, eI1]; rfl) rfl ?_
  have hJo : ∀ a : Nat, a ≠ sc + 3 → a ≠ sc + 4 → J a = I a := fun a h1 h2 => by rw [hJe]; exact xTry_o h1 h2
  have hJt : ∀ b : Int, 1 ≤ b → b ≤ 8 → J (sc + 3) b = xTR (I k) f la co b := by rw [hJe]; exact xTry_t
  have hJc : J sc = I sc := hJo _ (by omega) (by omega)
  have hJs : J (sc + 2) = I (sc + 2) := hJo _ (by omega) (by omega)
  have hJv : fSv J sc := by unfold fSv; rw [hJc, hJs]; exact hv
  have hJw : ∀ i : Int, 0 ≤ i → i < 12 → J (P (sc + 1) i) = I (P (sc + 1) i) := fun i h0 h1 => by obtain ⟨j9, h9, e9⟩ := hp.1 i h0 h1; exact hJo _ (by omega) (by omega)
  have hwt : fWv J (sc + 3) := xTR_wv hJt hwk hf hla hco
  have hJm : ∀ i : Int, sMeet (J sc 4) (J sc 3) (J (sc + 2)) (J (sc + 3)) (I (P (sc + 1) i)) = sMeet (I sc 4) (I sc 3) (I (sc + 2)) (xTR (I k) f la co) (I (P (sc + 1) i)) := fun i => by rw [hJc, hJs]; exact sMeet_c hJt
  have lp : ∀ (z : Nat) (i : Int), 0 ≤ i ∧ i ≤ I sc 1 → (∀ y : Int, 0 ≤ y → y < i → y ≠ x → sMeet (I sc 4) (I sc 3) (I (sc + 2)) (xTR (I k) f la co) (I (P (sc + 1) y)) = -19) → ((I sc 1 - i).toNat) = z → fV p l e rmX0_isFree s m args below meth c (MQ below (fQ Γ N (fE (some (.int (i32 (fB (xFreeB I P sc x f la co))))) (xTry I sc (P (sc + 1) x) f la co) P)) args s 0 0 (fA Γ N)) (fA Γ N) Γ N 6 0 0 J P 34 [(0, .ref (Γ.1 sc)), (1, .int (i32 x)), (2, .int (i32 f)), (3, .int (i32 la)), (4, .int (i32 co)), (5, .int (i32 i))] [] := by
    intro z
    induction z using Nat.strongRecOn with
    | _ z ih_lp =>
      intro i hi hno hz_lp
      refine fV_iload (pc' := 36) G 5 dX0_isFree_34 rfl rfl ?_
      refine fV_aload_n (pc' := 37) G 0 dX0_isFree_36 rfl rfl rfl ?_
      refine fV_get (K := 0) (v := .int (i32 (J sc 1))) (pc' := 40) G kfX0_isFree_33 hn0 hs1 rfl rfl dX0_isFree_37 rfl ?_
      refine fV_top (b := I sc 1) (by rw [hJc]) ?_
      refine fV_icmp_ge (tgt := 77) (pc' := 43) G dX0_isFree_40 (by decide) rfl (by omega) (by omega) (fun c104 => ?_) (fun c104 => ?_)
      · refine fV_iconst (pc' := 78) G dX0_isFree_77 rfl ?_
        refine fV_zret (b := true) G dX0_isFree_78 ?_
        exact ⟨by rw [xFreeB_t (fun y h0 h1 h2 => by rw [← hke]; exact hno y h0 (by omega) h2)] <;> rfl, by rw [hJe, hke], rfl⟩
      · refine fV_iload (pc' := 45) G 5 dX0_isFree_43 rfl rfl ?_
        refine fV_iload_n (pc' := 46) G 1 dX0_isFree_45 rfl rfl rfl ?_
        refine fV_icmp_eq (tgt := 71) (pc' := 49) G dX0_isFree_46 (by decide) rfl (by omega) (by omega) (fun c105 => ?_) (fun c105 => ?_)
        · have hix := c105
          refine fV_iinc (lv' := [(5, .int (i32 (i + 1))), (0, .ref (Γ.1 sc)), (1, .int (i32 x)), (2, .int (i32 f)), (3, .int (i32 la)), (4, .int (i32 co))]) (pc' := 74) G 5 dX0_isFree_71 rfl (by decide) rfl rfl ?_
          refine fV_goto (tgt := 34) G dX0_isFree_74 (by decide) ?_
          refine fV_lv (lv' := [(0, .ref (Γ.1 sc)), (1, .int (i32 x)), (2, .int (i32 f)), (3, .int (i32 la)), (4, .int (i32 co)), (5, .int (i32 (i + 1)))]) [1, 2, 3, 4, 5, 0] rfl ?_
          exact ih_lp _ (by omega) (i + 1) (by omega) (fun y h0 h1 h2 => by by_cases z : y = i; (first | exact absurd (z.trans hix) h2 | (rw [z]; exact hmi)); exact hno y h0 (by omega) h2) rfl
        · have hix := c105
          refine fV_aload_n (pc' := 50) G 0 dX0_isFree_49 rfl rfl rfl ?_
          refine fV_aload_n (pc' := 51) G 0 dX0_isFree_50 rfl rfl rfl ?_
          refine fV_get (K := 0) (v := .ref (Γ.1 (sc + 3))) (pc' := 54) G kfX0_isFree_26 hn0 hs1 rfl rfl dX0_isFree_51 rfl ?_
          refine fV_aload_n (pc' := 55) G 0 dX0_isFree_54 rfl rfl rfl ?_
          refine fV_get (K := 0) (v := .ref (Γ.1 (sc + 1))) (pc' := 58) G kfX0_isFree_11 hn0 hs1 rfl rfl dX0_isFree_55 rfl ?_
          refine fV_iload (pc' := 60) G 5 dX0_isFree_58 rfl rfl ?_
          refine fV_aald (K := 11) (n := 12) (t := 1) (pc' := 61) G hn1 hs2 (fun _ _ => rfl) rfl (by decide) (by omega) dX0_isFree_60 rfl ?_
          have hwi := hww i (by omega) (by omega)
          have hwj : fWv J (P (sc + 1) i) := by unfold fWv; rw [hJw i (by omega) (by omega)]; exact hwi
          have hmb := sMeet_b hJv hwt hwj
          rw [hJw i (by omega) (by omega), hJm i] at hmb
          refine fV_callVf (st' := [.int (i32 (sMeet (J sc 4) (J sc 3) (J (sc + 2)) (J (sc + 3)) (J (P (sc + 1) i))))]) (n := 2) (k := sc) (K := 0) (As := [.ref (Γ.1 (sc + 3)), .ref (Γ.1 (P (sc + 1) i))]) (rest := []) (pc' := 64) G (mX0_firstMeeting l Γ hN J P hs hJv (fSc_t hs) hwt (fPs_w hs hp (w := i) (by omega) (by omega)) hwj) kcX0_isFree_71 hn0 hs1 rfl rfl rfl (Nat.le_of_ble_eq_true rfl) (Nat.zero_le _) (Nat.zero_le _) dX0_isFree_61 rfl rfl ?_
          refine fV_top (b := sMeet (I sc 4) (I sc 3) (I (sc + 2)) (xTR (I k) f la co) (I (P (sc + 1) i))) (by rw [hJw i (by omega) (by omega)]; exact hJm i) ?_
          refine fV_bipush (n := -19) (pc' := 66) G dX0_isFree_64 rfl rfl ?_
          refine fV_icmp_eq (tgt := 71) (pc' := 69) G dX0_isFree_66 (by decide) rfl (by omega) (by decide) (fun c106 => ?_) (fun c106 => ?_)
          · have hmi := c106
            refine fV_iinc (lv' := [(5, .int (i32 (i + 1))), (0, .ref (Γ.1 sc)), (1, .int (i32 x)), (2, .int (i32 f)), (3, .int (i32 la)), (4, .int (i32 co))]) (pc' := 74) G 5 dX0_isFree_71 rfl (by decide) rfl rfl ?_
            refine fV_goto (tgt := 34) G dX0_isFree_74 (by decide) ?_
            refine fV_lv (lv' := [(0, .ref (Γ.1 sc)), (1, .int (i32 x)), (2, .int (i32 f)), (3, .int (i32 la)), (4, .int (i32 co)), (5, .int (i32 (i + 1)))]) [1, 2, 3, 4, 5, 0] rfl ?_
            exact ih_lp _ (by omega) (i + 1) (by omega) (fun y h0 h1 h2 => by by_cases z : y = i; (first | exact absurd (z.trans hix) h2 | (rw [z]; exact hmi)); exact hno y h0 (by omega) h2) rfl
          · have hmi := c106
            refine fV_iconst (pc' := 70) G dX0_isFree_69 rfl ?_
            refine fV_zret (b := false) G dX0_isFree_70 ?_
            exact ⟨by rw [xFreeB_f (fun z => hmi (by rw [hke]; exact z i (by omega) (by omega) hix))] <;> rfl, by rw [hJe, hke], rfl⟩
  refine fV_lv (lv' := [(0, .ref (Γ.1 sc)), (1, .int (i32 x)), (2, .int (i32 f)), (3, .int (i32 la)), (4, .int (i32 co)), (5, .int (i32 0))]) [1, 2, 3, 4, 5, 0] rfl ?_
  exact lp _ 0 (by omega) (fun y h0 h1 => by omega) rfl
