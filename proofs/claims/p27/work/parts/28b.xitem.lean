/-! CONTRACTS 20: the class's reading of items (rows laid by wip/whole/gen/con20.py) -/
set_option maxHeartbeats 4000000 in
set_option maxRecDepth 100000 in
theorem mX1_wayOf (l : Launch) (Γ : fG) {N : Nat} (hN : 214 ≤ N) (I : fM) (P : fN) {T : Int → Int} {n : Int} (hn : 0 ≤ n ∧ n ≤ 160) (hT : tOk T n) {e0 : Int} (he : 0 ≤ e0 ∧ e0 ≤ n) (h : tAt I T n e0) : fMet l yX1_wayOf wsX1_wayOf rmX1_wayOf Γ N [.ref (Γ.1 212)] I P (fE (some (.int (i32 (tWay T n e0)))) I P) := by
  refine fMet_of (own := RX1) (cc := cX1_wayOf) (maxL := 1) (ret := (some .int)) rfl (by decide +kernel) rfl (Nat.le_of_ble_eq_true rfl) ?_
  intro p e s m args below meth c G
  refine fV_lv (lv' := [(0, .ref (Γ.1 212))]) [0] rfl ?_
  refine fV_aload_n (pc' := 1) G 0 dX1_wayOf_0 rfl rfl rfl ?_
  refine fV_ldcS (i := 2) (index := 108) (pc' := 3) G (by decide) rfl dX1_wayOf_1 rfl ?_
  refine fV_callVf (st' := [.int (i32 (fB (tNmB T n e0 2)))]) (n := 1) (k := 212) (K := 1) (As := [.ref (Γ.2.2.2 (1 + 2))]) (rest := []) (pc' := 6) G (mX1_nam l Γ hN I P hn hT he h 2 (by decide)) kcX1_wayOf_34 (by omega) rfl rfl rfl rfl (Nat.le_of_ble_eq_true rfl) (Nat.zero_le _) (Nat.zero_le _) dX1_wayOf_3 rfl rfl ?_
  refine fV_ifeq_b (tgt := 11) (pc' := 9) G dX1_wayOf_6 (by decide) rfl (fun c1 => ?_) (fun c1 => ?_)
  · refine fV_aload_n (pc' := 12) G 0 dX1_wayOf_11 rfl rfl rfl ?_
    refine fV_ldcS (i := 3) (index := 110) (pc' := 14) G (by decide) rfl dX1_wayOf_12 rfl ?_
    refine fV_callVf (st' := [.int (i32 (fB (tNmB T n e0 3)))]) (n := 1) (k := 212) (K := 1) (As := [.ref (Γ.2.2.2 (1 + 3))]) (rest := []) (pc' := 17) G (mX1_nam l Γ hN I P hn hT he h 3 (by decide)) kcX1_wayOf_34 (by omega) rfl rfl rfl rfl (Nat.le_of_ble_eq_true rfl) (Nat.zero_le _) (Nat.zero_le _) dX1_wayOf_14 rfl rfl ?_
    refine fV_ifeq_b (tgt := 22) (pc' := 20) G dX1_wayOf_17 (by decide) rfl (fun c2 => ?_) (fun c2 => ?_)
    · refine fV_aload_n (pc' := 23) G 0 dX1_wayOf_22 rfl rfl rfl ?_
      refine fV_ldcS (i := 4) (index := 112) (pc' := 25) G (by decide) rfl dX1_wayOf_23 rfl ?_
      refine fV_callVf (st' := [.int (i32 (fB (tNmB T n e0 4)))]) (n := 1) (k := 212) (K := 1) (As := [.ref (Γ.2.2.2 (1 + 4))]) (rest := []) (pc' := 28) G (mX1_nam l Γ hN I P hn hT he h 4 (by decide)) kcX1_wayOf_34 (by omega) rfl rfl rfl rfl (Nat.le_of_ble_eq_true rfl) (Nat.zero_le _) (Nat.zero_le _) dX1_wayOf_25 rfl rfl ?_
      refine fV_ifeq_b (tgt := 33) (pc' := 31) G dX1_wayOf_28 (by decide) rfl (fun c3 => ?_) (fun c3 => ?_)
      · refine fV_aload_n (pc' := 34) G 0 dX1_wayOf_33 rfl rfl rfl ?_
        refine fV_ldcS (i := 5) (index := 114) (pc' := 36) G (by decide) rfl dX1_wayOf_34 rfl ?_
        refine fV_callVf (st' := [.int (i32 (fB (tNmB T n e0 5)))]) (n := 1) (k := 212) (K := 1) (As := [.ref (Γ.2.2.2 (1 + 5))]) (rest := []) (pc' := 39) G (mX1_nam l Γ hN I P hn hT he h 5 (by decide)) kcX1_wayOf_34 (by omega) rfl rfl rfl rfl (Nat.le_of_ble_eq_true rfl) (Nat.zero_le _) (Nat.zero_le _) dX1_wayOf_36 rfl rfl ?_
        refine fV_ifeq_b (tgt := 46) (pc' := 42) G dX1_wayOf_39 (by decide) rfl (fun c4 => ?_) (fun c4 => ?_)
        · refine fV_iconst (pc' := 47) G dX1_wayOf_46 rfl ?_
          refine fV_iret G dX1_wayOf_47 ?_
          exact fE_i (by unfold tWay; simp [*])
        · refine fV_iconst (pc' := 43) G dX1_wayOf_42 rfl ?_
          refine fV_goto (tgt := 47) G dX1_wayOf_43 (by decide) ?_
          refine fV_iret G dX1_wayOf_47 ?_
          exact fE_i (by unfold tWay; simp [*])
      · refine fV_iconst (pc' := 32) G dX1_wayOf_31 rfl ?_
        refine fV_iret G dX1_wayOf_32 ?_
        exact fE_i (by unfold tWay; simp [*])
    · refine fV_iconst (pc' := 21) G dX1_wayOf_20 rfl ?_
      refine fV_iret G dX1_wayOf_21 ?_
      exact fE_i (by unfold tWay; simp [*])
  · refine fV_iconst (pc' := 10) G dX1_wayOf_9 rfl ?_
    refine fV_iret G dX1_wayOf_10 ?_
    exact fE_i (by unfold tWay; simp [*])
set_option maxHeartbeats 4000000 in
set_option maxRecDepth 100000 in
theorem mX1_readShot (l : Launch) (Γ : fG) {N : Nat} (hN : 214 ≤ N) (I : fM) (P : fN) {T : Int → Int} {n : Int} (hn : 0 ≤ n ∧ n ≤ 160) (hT : tOk T n) {e0 : Int} (he : 0 ≤ e0 ∧ e0 ≤ n) (hb : tB I T n e0) {sc : Nat} (hs : fSc sc) {sr : Int → Int} (hpP : fPs P sc) (hr : Rel I P sc sr) (hv : mOkr sr) (hd : sDi sr) (h10 : sr 1 < 10) : fMet l yX1_readShot wsX1_readShot rmX1_readShot Γ N [.ref (Γ.1 212), .ref (Γ.1 sc)] I P (fun v J Q => itP I P sc (pShot T n sr e0) v J ∧ Q = P) := by
  refine fMet_of (own := RX1) (cc := cX1_readShot) (maxL := 3) (ret := (some .boolean)) rfl (by decide +kernel) rfl (Nat.le_of_ble_eq_true rfl) ?_
  intro p e s m args below meth c G
  obtain ⟨hs0, hs1, hs2, hs3, hs4, hs5, hs6⟩ := fSc_k hs
  have hv0 := hv.1.1
  have hv1 := hv.1.2.1
  refine fV_lv (lv' := [(0, .ref (Γ.1 212)), (1, .ref (Γ.1 sc))]) [0, 1] rfl ?_
  refine fV_aload_n (pc' := 1) G 0 dX1_readShot_0 rfl rfl rfl ?_
  obtain ⟨I1, eI1⟩ : ∃ J9 : fM, J9 = tStep I := ⟨_, rfl⟩
  refine fV_callVf (I' := I1) (st' := []) (n := 0) (k := 212) (K := 1) (As := []) (rest := []) (pc' := 4) G (by rw [eI1]; exact mX1_stp l Γ hN I P hn hT he hb) kcX1_readShot_19 (by omega) rfl rfl rfl rfl (Nat.le_of_ble_eq_true rfl) (Nat.zero_le _) (Nat.zero_le _) dX1_readShot_1 rfl rfl ?_
  have at_I1 : tAt I1 T n e0 := by rw [eI1]; exact (tAt_st hb).1
  have tb_I1 : tB I1 T n (tE T n e0) := by rw [eI1]; exact (tAt_st hb).2
  have of_I1 : tOff I I1 := by rw [eI1]; exact tStep_off (tOff_r I)
  have sb_I1 := tS_b (T := T) (n := n) (e := e0) (by omega)
  have eb_I1 := tE_b (T := T) (n := n) (e := e0) (by omega)
  have kb_I1 := tK_b T n e0
  have cb_I1 := tClip_b (T := T) (n := n) (e := e0) (by omega)
  have he_I1 : 0 ≤ tE T n e0 ∧ tE T n e0 ≤ n := by omega
  have re_I1 : Rel I1 P sc sr := Rel_off hs hpP hv of_I1 hr
  refine fV_aload_n (pc' := 5) G 0 dX1_readShot_4 rfl rfl rfl ?_
  refine fV_callVf (st' := [.int (i32 (tClip (tNum T n e0)))]) (n := 0) (k := 212) (K := 1) (As := []) (rest := []) (pc' := 8) G (mX1_num l Γ hN I1 P hn hT he at_I1) kcX1_readShot_55 (by omega) rfl rfl rfl rfl (Nat.le_of_ble_eq_true rfl) (Nat.zero_le _) (Nat.zero_le _) dX1_readShot_5 rfl rfl ?_
  refine fV_istore_n (lv' := [(2, .int (i32 (tClip (tNum T n e0)))), (0, .ref (Γ.1 212)), (1, .ref (Γ.1 sc))]) (pc' := 9) G dX1_readShot_8 rfl (by decide) rfl rfl ?_
  refine fV_iload_n (pc' := 10) G 0 dX1_readShot_9 rfl rfl rfl ?_
  refine fV_iconst (pc' := 11) G dX1_readShot_10 rfl ?_
  refine fV_sipush (n := 3000) (pc' := 14) G dX1_readShot_11 rfl rfl ?_
  refine fV_callNf (n := 3) (As := [.int (i32 (tClip (tNum T n e0))), .int (i32 1), .int (i32 3000)]) (rest := []) (pc' := 17) (st' := [.int (i32 (fB (sBetw (tClip (tNum T n e0)) 1 3000)))]) G G.2.2.2.2.2.2.2.2.1.2.2.2.2.2.2.2.2.2.1 (mX3_isBetween l Γ hN I1 P (tClip (tNum T n e0)) 1 3000 (by omega) (by omega) (by omega)) kcX1_readShot_81 rfl rfl (Nat.le_of_ble_eq_true rfl) (Nat.zero_le _) (Nat.zero_le _) dX1_readShot_14 rfl rfl ?_
  refine fV_ifeq_b (tgt := 28) (pc' := 20) G dX1_readShot_17 (by decide) rfl (fun c2 => ?_) (fun c2 => ?_)
  · have d2 : ¬ (1 ≤ (tClip (tNum T n e0)) ∧ (tClip (tNum T n e0)) ≤ 3000) := of_decide_eq_false c2
    have hnn : ¬ (1 ≤ tNum T n e0 ∧ tNum T n e0 ≤ 3000) := fun z => d2 ((tClip_in (by decide) (by decide)).mpr z)
    refine fV_iconst (pc' := 29) G dX1_readShot_28 rfl ?_
    refine fV_zret (b := false) G dX1_readShot_29 ?_
    exact ⟨by unfold pShot; rw [if_neg (by first | (exact fun z => hnn z.1) | (exact fun z => by rw [hyes] at z; cases z.2))]; exact ⟨rfl, of_I1, at_I1.2.2.2.1⟩, rfl⟩
  · have d2 : (1 ≤ (tClip (tNum T n e0)) ∧ (tClip (tNum T n e0)) ≤ 3000) := of_decide_eq_true c2
    have hnu := (tClip_in (by decide) (by decide)).mp d2
    have hce := tClip_eq (by decide) (by decide) hnu
    refine fV_aload_n (pc' := 21) G 2 dX1_readShot_20 rfl rfl rfl ?_
    refine fV_iload_n (pc' := 22) G 0 dX1_readShot_21 rfl rfl rfl ?_
    refine fV_callVf (st' := [.int (i32 (fB (decide (xShotOf I1 sc (tClip (tNum T n e0)) < I1 sc 3))))]) (n := 1) (k := sc) (K := 0) (As := [.int (i32 (tClip (tNum T n e0)))]) (rest := []) (pc' := 25) G (mX0_hasShotIn l Γ hN I1 P hs (Rel_sv re_I1 hv) (tClip (tNum T n e0)) (by omega)) kcX1_readShot_85 (by omega) hs1 rfl rfl rfl (Nat.le_of_ble_eq_true rfl) (Nat.zero_le _) (Nat.zero_le _) dX1_readShot_22 rfl rfl ?_
    refine fV_ifeq_b (tgt := 30) (pc' := 28) G dX1_readShot_25 (by decide) rfl (fun c3 => ?_) (fun c3 => ?_)
    · have d3 : ¬ (xShotOf I1 sc (tClip (tNum T n e0)) < I1 sc 3) := of_decide_eq_false c3
      rw [hce] at d3
      have hiff := hasS_iff (f := tNum T n e0) hv1.1 re_I1.2.1 re_I1.2.2.2.1
      have hno : hasSB sr (tNum T n e0) = false := by cases hq : hasSB sr (tNum T n e0); rfl; exact absurd (hiff.mpr (hasSB_iff.mp hq)) d3
      refine fV_aload_n (pc' := 31) G 1 dX1_readShot_30 rfl rfl rfl ?_
      obtain ⟨I4, eI4⟩ : ∃ J9 : fM, J9 = tStep I1 := ⟨_, rfl⟩
      refine fV_callVf (I' := I4) (st' := []) (n := 0) (k := 212) (K := 1) (As := []) (rest := []) (pc' := 34) G (by rw [eI4]; exact mX1_stp l Γ hN I1 P hn hT he_I1 tb_I1) kcX1_readShot_19 (by omega) rfl rfl rfl rfl (Nat.le_of_ble_eq_true rfl) (Nat.zero_le _) (Nat.zero_le _) dX1_readShot_31 rfl rfl ?_
      have at_I4 : tAt I4 T n (tE T n e0) := by rw [eI4]; exact (tAt_st tb_I1).1
      have tb_I4 : tB I4 T n (tE T n (tE T n e0)) := by rw [eI4]; exact (tAt_st tb_I1).2
      have of_I4 : tOff I I4 := by rw [eI4]; exact tStep_off of_I1
      have sb_I4 := tS_b (T := T) (n := n) (e := tE T n e0) (by omega)
      have eb_I4 := tE_b (T := T) (n := n) (e := tE T n e0) (by omega)
      have kb_I4 := tK_b T n (tE T n e0)
      have cb_I4 := tClip_b (T := T) (n := n) (e := tE T n e0) (by omega)
      have he_I4 : 0 ≤ tE T n (tE T n e0) ∧ tE T n (tE T n e0) ≤ n := by omega
      have re_I4 : Rel I4 P sc sr := Rel_off hs hpP hv of_I4 hr
      refine fV_aload_n (pc' := 35) G 1 dX1_readShot_34 rfl rfl rfl ?_
      refine fV_get (K := 1) (v := .int (i32 (I4 212 2))) (pc' := 38) G kfX1_readShot_22 (by omega) rfl rfl rfl dX1_readShot_35 rfl ?_
      refine fV_top (b := tK T n (tE T n e0)) (by rw [at_I4.2.2.1]) ?_
      refine fV_iconst (pc' := 39) G dX1_readShot_38 rfl ?_
      refine fV_icmp_eq (tgt := 44) (pc' := 42) G dX1_readShot_39 (by decide) rfl (by omega) (by decide) (fun c5 => ?_) (fun c5 => ?_)
      · refine fV_aload_n (pc' := 45) G 2 dX1_readShot_44 rfl rfl rfl ?_
        refine fV_iload_n (pc' := 46) G 0 dX1_readShot_45 rfl rfl rfl ?_
        obtain ⟨I6, eI6⟩ : ∃ J9 : fM, J9 = xIns I4 sc (tClip (tNum T n e0)) := ⟨_, rfl⟩
        refine fV_callVf (I' := I6) (st' := []) (n := 1) (k := sc) (K := 0) (As := [.int (i32 (tClip (tNum T n e0)))]) (rest := []) (pc' := 49) G (by rw [eI6]; exact mX0_insertShot l Γ hN I4 P hs (Rel_sv re_I4 hv) (by rw [re_I4.2.1]; omega) (tClip (tNum T n e0)) (by omega)) kcX1_readShot_89 (by omega) hs1 rfl rfl rfl (Nat.le_of_ble_eq_true rfl) (Nat.zero_le _) (Nat.zero_le _) dX1_readShot_46 rfl rfl ?_
        refine fV_iconst (pc' := 50) G dX1_readShot_49 rfl ?_
        refine fV_zret (b := true) G dX1_readShot_50 ?_
        exact ⟨by unfold pShot; rw [if_pos ⟨hnu, hno⟩, if_pos (by omega)]; exact ⟨rfl, by rw [eI6, hce]; exact tOff_ins of_I4 hs, by rw [eI6, xIns_o (by omega)]; exact at_I4.2.2.2.2, hnu, by omega, by rw [hb.2.1]; omega⟩, rfl⟩
      · refine fV_iconst (pc' := 43) G dX1_readShot_42 rfl ?_
        refine fV_zret (b := false) G dX1_readShot_43 ?_
        exact ⟨by unfold pShot; rw [if_pos ⟨hnu, hno⟩, if_neg (by omega)]; exact ⟨rfl, of_I4, at_I4.2.2.2.1⟩, rfl⟩
    · have d3 : (xShotOf I1 sc (tClip (tNum T n e0)) < I1 sc 3) := of_decide_eq_true c3
      rw [hce] at d3
      have hiff := hasS_iff (f := tNum T n e0) hv1.1 re_I1.2.1 re_I1.2.2.2.1
      have hyes : hasSB sr (tNum T n e0) = true := hasSB_iff.mpr (hiff.mp d3)
      refine fV_iconst (pc' := 29) G dX1_readShot_28 rfl ?_
      refine fV_zret (b := false) G dX1_readShot_29 ?_
      exact ⟨by unfold pShot; rw [if_neg (by first | (exact fun z => hnn z.1) | (exact fun z => by rw [hyes] at z; cases z.2))]; exact ⟨rfl, of_I1, at_I1.2.2.2.1⟩, rfl⟩
set_option maxHeartbeats 4000000 in
set_option maxRecDepth 100000 in
theorem mX1_readWord (l : Launch) (Γ : fG) {N : Nat} (hN : 214 ≤ N) (I : fM) (P : fN) {T : Int → Int} {n : Int} (hn : 0 ≤ n ∧ n ≤ 160) (hT : tOk T n) {e0 : Int} (he : 0 ≤ e0 ∧ e0 ≤ n) (hb : tB I T n e0) {sc : Nat} (hs : fSc sc) {sr : Int → Int} (hpP : fPs P sc) (hr : Rel I P sc sr) (hv : mOkr sr) (hd : sDi sr) (h12 : sr 0 < 12) : fMet l yX1_readWord wsX1_readWord rmX1_readWord Γ N [.ref (Γ.1 212), .ref (Γ.1 sc)] I P (fun v J Q => itP I P sc (pWord T n e0) v J ∧ Q = P) := by
  refine fMet_of (own := RX1) (cc := cX1_readWord) (maxL := 9) (ret := (some .boolean)) rfl (by decide +kernel) rfl (Nat.le_of_ble_eq_true rfl) ?_
  intro p e s m args below meth c G
  obtain ⟨hs0, hs1, hs2, hs3, hs4, hs5, hs6⟩ := fSc_k hs
  have hv0 := hv.1.1
  have hv1 := hv.1.2.1
  refine fV_lv (lv' := [(0, .ref (Γ.1 212)), (1, .ref (Γ.1 sc))]) [0, 1] rfl ?_
  refine fV_aload_n (pc' := 1) G 0 dX1_readWord_0 rfl rfl rfl ?_
  obtain ⟨I1, eI1⟩ : ∃ J9 : fM, J9 = tStep I := ⟨_, rfl⟩
  refine fV_callVf (I' := I1) (st' := []) (n := 0) (k := 212) (K := 1) (As := []) (rest := []) (pc' := 4) G (by rw [eI1]; exact mX1_stp l Γ hN I P hn hT he hb) kcX1_readWord_19 (by omega) rfl rfl rfl rfl (Nat.le_of_ble_eq_true rfl) (Nat.zero_le _) (Nat.zero_le _) dX1_readWord_1 rfl rfl ?_
  have at_I1 : tAt I1 T n e0 := by rw [eI1]; exact (tAt_st hb).1
  have tb_I1 : tB I1 T n (tE T n e0) := by rw [eI1]; exact (tAt_st hb).2
  have of_I1 : tOff I I1 := by rw [eI1]; exact tStep_off (tOff_r I)
  have sb_I1 := tS_b (T := T) (n := n) (e := e0) (by omega)
  have eb_I1 := tE_b (T := T) (n := n) (e := e0) (by omega)
  have kb_I1 := tK_b T n e0
  have cb_I1 := tClip_b (T := T) (n := n) (e := e0) (by omega)
  have he_I1 : 0 ≤ tE T n e0 ∧ tE T n e0 ≤ n := by omega
  refine fV_aload_n (pc' := 5) G 0 dX1_readWord_4 rfl rfl rfl ?_
  refine fV_get (K := 1) (v := .int (i32 (I1 212 3))) (pc' := 8) G kfX1_readWord_29 (by omega) rfl rfl rfl dX1_readWord_5 rfl ?_
  refine fV_top (b := tS T n e0) (by rw [at_I1.2.2.2.1]) ?_
  refine fV_istore_n (lv' := [(2, .int (i32 (tS T n e0))), (0, .ref (Γ.1 212)), (1, .ref (Γ.1 sc))]) (pc' := 9) G dX1_readWord_8 rfl (by decide) rfl rfl ?_
  refine fV_aload_n (pc' := 10) G 1 dX1_readWord_9 rfl rfl rfl ?_
  refine fV_get (K := 1) (v := .int (i32 (I1 212 4))) (pc' := 13) G kfX1_readWord_15 (by omega) rfl rfl rfl dX1_readWord_10 rfl ?_
  refine fV_top (b := tE T n e0) (by rw [at_I1.2.2.2.2]) ?_
  refine fV_aload_n (pc' := 14) G 1 dX1_readWord_13 rfl rfl rfl ?_
  refine fV_get (K := 1) (v := .int (i32 (I1 212 3))) (pc' := 17) G kfX1_readWord_29 (by omega) rfl rfl rfl dX1_readWord_14 rfl ?_
  refine fV_top (b := tS T n e0) (by rw [at_I1.2.2.2.1]) ?_
  refine fV_isub (pc' := 18) G dX1_readWord_17 rfl ?_
  refine fV_istore_n (lv' := [(3, .int (i32 ((tE T n e0) - (tS T n e0)))), (2, .int (i32 (tS T n e0))), (0, .ref (Γ.1 212)), (1, .ref (Γ.1 sc))]) (pc' := 19) G dX1_readWord_18 rfl (by decide) rfl rfl ?_
  refine fV_aload_n (pc' := 20) G 2 dX1_readWord_19 rfl rfl rfl ?_
  refine fV_get (K := 1) (v := .int (i32 (I1 212 2))) (pc' := 23) G kfX1_readWord_22 (by omega) rfl rfl rfl dX1_readWord_20 rfl ?_
  refine fV_top (b := tK T n e0) (by rw [at_I1.2.2.1]) ?_
  refine fV_iconst (pc' := 24) G dX1_readWord_23 rfl ?_
  refine fV_icmp_ne (tgt := 33) (pc' := 27) G dX1_readWord_24 (by decide) rfl (by omega) (by decide) (fun c2 => ?_) (fun c2 => ?_)
  · refine fV_iconst (pc' := 34) G dX1_readWord_33 rfl ?_
    refine fV_zret (b := false) G dX1_readWord_34 ?_
    exact ⟨by unfold pWord; rw [if_neg (by omega)]; exact ⟨rfl, of_I1, at_I1.2.2.2.1⟩, rfl⟩
  · refine fV_iload_n (pc' := 28) G 0 dX1_readWord_27 rfl rfl rfl ?_
    refine fV_bipush (n := 12) (pc' := 30) G dX1_readWord_28 rfl rfl ?_
    refine fV_icmp_le (tgt := 35) (pc' := 33) G dX1_readWord_30 (by decide) rfl (by omega) (by decide) (fun c3 => ?_) (fun c3 => ?_)
    · refine fV_aload_n (pc' := 36) G 2 dX1_readWord_35 rfl rfl rfl ?_
      obtain ⟨I4, eI4⟩ : ∃ J9 : fM, J9 = tStep I1 := ⟨_, rfl⟩
      refine fV_callVf (I' := I4) (st' := []) (n := 0) (k := 212) (K := 1) (As := []) (rest := []) (pc' := 39) G (by rw [eI4]; exact mX1_stp l Γ hN I1 P hn hT he_I1 tb_I1) kcX1_readWord_19 (by omega) rfl rfl rfl rfl (Nat.le_of_ble_eq_true rfl) (Nat.zero_le _) (Nat.zero_le _) dX1_readWord_36 rfl rfl ?_
      have at_I4 : tAt I4 T n (tE T n e0) := by rw [eI4]; exact (tAt_st tb_I1).1
      have tb_I4 : tB I4 T n (tE T n (tE T n e0)) := by rw [eI4]; exact (tAt_st tb_I1).2
      have of_I4 : tOff I I4 := by rw [eI4]; exact tStep_off of_I1
      have sb_I4 := tS_b (T := T) (n := n) (e := tE T n e0) (by omega)
      have eb_I4 := tE_b (T := T) (n := n) (e := tE T n e0) (by omega)
      have kb_I4 := tK_b T n (tE T n e0)
      have cb_I4 := tClip_b (T := T) (n := n) (e := tE T n e0) (by omega)
      have he_I4 : 0 ≤ tE T n (tE T n e0) ∧ tE T n (tE T n e0) ≤ n := by omega
      refine fV_aload_n (pc' := 40) G 2 dX1_readWord_39 rfl rfl rfl ?_
      refine fV_callVf (st' := [.int (i32 (tClip (tNum T n (tE T n e0))))]) (n := 0) (k := 212) (K := 1) (As := []) (rest := []) (pc' := 43) G (mX1_num l Γ hN I4 P hn hT he_I1 at_I4) kcX1_readWord_55 (by omega) rfl rfl rfl rfl (Nat.le_of_ble_eq_true rfl) (Nat.zero_le _) (Nat.zero_le _) dX1_readWord_40 rfl rfl ?_
      refine fV_istore (lv' := [(4, .int (i32 (tClip (tNum T n (tE T n e0))))), (3, .int (i32 ((tE T n e0) - (tS T n e0)))), (2, .int (i32 (tS T n e0))), (0, .ref (Γ.1 212)), (1, .ref (Γ.1 sc))]) (pc' := 45) G dX1_readWord_43 (by decide) rfl rfl ?_
      refine fV_iconst (pc' := 46) G dX1_readWord_45 rfl ?_
      refine fV_iload (pc' := 48) G 0 dX1_readWord_46 rfl rfl ?_
      refine fV_callNf (n := 2) (As := [.int (i32 0), .int (i32 (tClip (tNum T n (tE T n e0))))]) (rest := []) (pc' := 51) (st' := [.int (i32 (fB (sAllowed 0 (tClip (tNum T n (tE T n e0))))))]) G G.2.2.2.2.2.2.2.2.1.2.2.2.2.2.2.2.2.1 (mX3_isAllowed l Γ hN I4 P 0 (tClip (tNum T n (tE T n e0))) (by omega) (by omega)) kcX1_readWord_59 rfl rfl (Nat.le_of_ble_eq_true rfl) (Nat.zero_le _) (Nat.zero_le _) dX1_readWord_48 rfl rfl ?_
      refine fV_ifne_b (tgt := 56) (pc' := 54) G dX1_readWord_51 (by decide) rfl (fun c5 => ?_) (fun c5 => ?_)
      · have d5 : (((0 : Int) = 0 ∧ 0 ≤ (tClip (tNum T n (tE T n e0))) ∧ (tClip (tNum T n (tE T n e0))) ≤ 2000) ∨ ((0 : Int) = 1 ∧ 1 ≤ (tClip (tNum T n (tE T n e0))) ∧ (tClip (tNum T n (tE T n e0))) ≤ 60) ∨ ((0 : Int) = 2 ∧ 0 ≤ (tClip (tNum T n (tE T n e0))) ∧ (tClip (tNum T n (tE T n e0))) ≤ 60) ∨ ((0 : Int) = 3 ∧ 0 ≤ (tClip (tNum T n (tE T n e0))) ∧ (tClip (tNum T n (tE T n e0))) ≤ 4)) := of_decide_eq_true c5
        have hnf := (tClip_in (v := tNum T n (tE T n e0)) (lo := 0) (hi := 2000) (by decide) (by decide)).mp (by omega)
        have hcf := tClip_eq (by decide) (by decide) hnf
        refine fV_aload_n (pc' := 57) G 3 dX1_readWord_56 rfl rfl rfl ?_
        obtain ⟨I6, eI6⟩ : ∃ J9 : fM, J9 = tStep I4 := ⟨_, rfl⟩
        refine fV_callVf (I' := I6) (st' := []) (n := 0) (k := 212) (K := 1) (As := []) (rest := []) (pc' := 60) G (by rw [eI6]; exact mX1_stp l Γ hN I4 P hn hT he_I4 tb_I4) kcX1_readWord_19 (by omega) rfl rfl rfl rfl (Nat.le_of_ble_eq_true rfl) (Nat.zero_le _) (Nat.zero_le _) dX1_readWord_57 rfl rfl ?_
        have at_I6 : tAt I6 T n (tE T n (tE T n e0)) := by rw [eI6]; exact (tAt_st tb_I4).1
        have tb_I6 : tB I6 T n (tE T n (tE T n (tE T n e0))) := by rw [eI6]; exact (tAt_st tb_I4).2
        have of_I6 : tOff I I6 := by rw [eI6]; exact tStep_off of_I4
        have sb_I6 := tS_b (T := T) (n := n) (e := tE T n (tE T n e0)) (by omega)
        have eb_I6 := tE_b (T := T) (n := n) (e := tE T n (tE T n e0)) (by omega)
        have kb_I6 := tK_b T n (tE T n (tE T n e0))
        have cb_I6 := tClip_b (T := T) (n := n) (e := tE T n (tE T n e0)) (by omega)
        have he_I6 : 0 ≤ tE T n (tE T n (tE T n e0)) ∧ tE T n (tE T n (tE T n e0)) ≤ n := by omega
        refine fV_aload_n (pc' := 61) G 3 dX1_readWord_60 rfl rfl rfl ?_
        refine fV_callVf (st' := [.int (i32 (tClip (tNum T n (tE T n (tE T n e0)))))]) (n := 0) (k := 212) (K := 1) (As := []) (rest := []) (pc' := 64) G (mX1_num l Γ hN I6 P hn hT he_I4 at_I6) kcX1_readWord_55 (by omega) rfl rfl rfl rfl (Nat.le_of_ble_eq_true rfl) (Nat.zero_le _) (Nat.zero_le _) dX1_readWord_61 rfl rfl ?_
        refine fV_istore (lv' := [(5, .int (i32 (tClip (tNum T n (tE T n (tE T n e0)))))), (4, .int (i32 (tClip (tNum T n (tE T n e0))))), (3, .int (i32 ((tE T n e0) - (tS T n e0)))), (2, .int (i32 (tS T n e0))), (0, .ref (Γ.1 212)), (1, .ref (Γ.1 sc))]) (pc' := 66) G dX1_readWord_64 (by decide) rfl rfl ?_
        refine fV_iconst (pc' := 67) G dX1_readWord_66 rfl ?_
        refine fV_iload (pc' := 69) G 0 dX1_readWord_67 rfl rfl ?_
        refine fV_callNf (n := 2) (As := [.int (i32 1), .int (i32 (tClip (tNum T n (tE T n (tE T n e0)))))]) (rest := []) (pc' := 72) (st' := [.int (i32 (fB (sAllowed 1 (tClip (tNum T n (tE T n (tE T n e0)))))))]) G G.2.2.2.2.2.2.2.2.1.2.2.2.2.2.2.2.2.1 (mX3_isAllowed l Γ hN I6 P 1 (tClip (tNum T n (tE T n (tE T n e0)))) (by omega) (by omega)) kcX1_readWord_59 rfl rfl (Nat.le_of_ble_eq_true rfl) (Nat.zero_le _) (Nat.zero_le _) dX1_readWord_69 rfl rfl ?_
        refine fV_ifne_b (tgt := 77) (pc' := 75) G dX1_readWord_72 (by decide) rfl (fun c7 => ?_) (fun c7 => ?_)
        · have d7 : (((1 : Int) = 0 ∧ 0 ≤ (tClip (tNum T n (tE T n (tE T n e0)))) ∧ (tClip (tNum T n (tE T n (tE T n e0)))) ≤ 2000) ∨ ((1 : Int) = 1 ∧ 1 ≤ (tClip (tNum T n (tE T n (tE T n e0)))) ∧ (tClip (tNum T n (tE T n (tE T n e0)))) ≤ 60) ∨ ((1 : Int) = 2 ∧ 0 ≤ (tClip (tNum T n (tE T n (tE T n e0)))) ∧ (tClip (tNum T n (tE T n (tE T n e0)))) ≤ 60) ∨ ((1 : Int) = 3 ∧ 0 ≤ (tClip (tNum T n (tE T n (tE T n e0)))) ∧ (tClip (tNum T n (tE T n (tE T n e0)))) ≤ 4)) := of_decide_eq_true c7
          have hnsp := (tClip_in (v := tNum T n (tE T n (tE T n e0))) (lo := 1) (hi := 60) (by decide) (by decide)).mp (by omega)
          have hcsp := tClip_eq (by decide) (by decide) hnsp
          refine fV_aload_n (pc' := 78) G 4 dX1_readWord_77 rfl rfl rfl ?_
          obtain ⟨I8, eI8⟩ : ∃ J9 : fM, J9 = tStep I6 := ⟨_, rfl⟩
          refine fV_callVf (I' := I8) (st' := []) (n := 0) (k := 212) (K := 1) (As := []) (rest := []) (pc' := 81) G (by rw [eI8]; exact mX1_stp l Γ hN I6 P hn hT he_I6 tb_I6) kcX1_readWord_19 (by omega) rfl rfl rfl rfl (Nat.le_of_ble_eq_true rfl) (Nat.zero_le _) (Nat.zero_le _) dX1_readWord_78 rfl rfl ?_
          have at_I8 : tAt I8 T n (tE T n (tE T n (tE T n e0))) := by rw [eI8]; exact (tAt_st tb_I6).1
          have tb_I8 : tB I8 T n (tE T n (tE T n (tE T n (tE T n e0)))) := by rw [eI8]; exact (tAt_st tb_I6).2
          have of_I8 : tOff I I8 := by rw [eI8]; exact tStep_off of_I6
          have sb_I8 := tS_b (T := T) (n := n) (e := tE T n (tE T n (tE T n e0))) (by omega)
          have eb_I8 := tE_b (T := T) (n := n) (e := tE T n (tE T n (tE T n e0))) (by omega)
          have kb_I8 := tK_b T n (tE T n (tE T n (tE T n e0)))
          have cb_I8 := tClip_b (T := T) (n := n) (e := tE T n (tE T n (tE T n e0))) (by omega)
          have he_I8 : 0 ≤ tE T n (tE T n (tE T n (tE T n e0))) ∧ tE T n (tE T n (tE T n (tE T n e0))) ≤ n := by omega
          refine fV_aload_n (pc' := 82) G 4 dX1_readWord_81 rfl rfl rfl ?_
          refine fV_callVf (st' := [.int (i32 (tClip (tNum T n (tE T n (tE T n (tE T n e0))))))]) (n := 0) (k := 212) (K := 1) (As := []) (rest := []) (pc' := 85) G (mX1_num l Γ hN I8 P hn hT he_I6 at_I8) kcX1_readWord_55 (by omega) rfl rfl rfl rfl (Nat.le_of_ble_eq_true rfl) (Nat.zero_le _) (Nat.zero_le _) dX1_readWord_82 rfl rfl ?_
          refine fV_istore (lv' := [(6, .int (i32 (tClip (tNum T n (tE T n (tE T n (tE T n e0))))))), (5, .int (i32 (tClip (tNum T n (tE T n (tE T n e0)))))), (4, .int (i32 (tClip (tNum T n (tE T n e0))))), (3, .int (i32 ((tE T n e0) - (tS T n e0)))), (2, .int (i32 (tS T n e0))), (0, .ref (Γ.1 212)), (1, .ref (Γ.1 sc))]) (pc' := 87) G dX1_readWord_85 (by decide) rfl rfl ?_
          refine fV_iconst (pc' := 88) G dX1_readWord_87 rfl ?_
          refine fV_iload (pc' := 90) G 0 dX1_readWord_88 rfl rfl ?_
          refine fV_callNf (n := 2) (As := [.int (i32 2), .int (i32 (tClip (tNum T n (tE T n (tE T n (tE T n e0))))))]) (rest := []) (pc' := 93) (st' := [.int (i32 (fB (sAllowed 2 (tClip (tNum T n (tE T n (tE T n (tE T n e0))))))))]) G G.2.2.2.2.2.2.2.2.1.2.2.2.2.2.2.2.2.1 (mX3_isAllowed l Γ hN I8 P 2 (tClip (tNum T n (tE T n (tE T n (tE T n e0))))) (by omega) (by omega)) kcX1_readWord_59 rfl rfl (Nat.le_of_ble_eq_true rfl) (Nat.zero_le _) (Nat.zero_le _) dX1_readWord_90 rfl rfl ?_
          refine fV_ifne_b (tgt := 98) (pc' := 96) G dX1_readWord_93 (by decide) rfl (fun c9 => ?_) (fun c9 => ?_)
          · have d9 : (((2 : Int) = 0 ∧ 0 ≤ (tClip (tNum T n (tE T n (tE T n (tE T n e0))))) ∧ (tClip (tNum T n (tE T n (tE T n (tE T n e0))))) ≤ 2000) ∨ ((2 : Int) = 1 ∧ 1 ≤ (tClip (tNum T n (tE T n (tE T n (tE T n e0))))) ∧ (tClip (tNum T n (tE T n (tE T n (tE T n e0))))) ≤ 60) ∨ ((2 : Int) = 2 ∧ 0 ≤ (tClip (tNum T n (tE T n (tE T n (tE T n e0))))) ∧ (tClip (tNum T n (tE T n (tE T n (tE T n e0))))) ≤ 60) ∨ ((2 : Int) = 3 ∧ 0 ≤ (tClip (tNum T n (tE T n (tE T n (tE T n e0))))) ∧ (tClip (tNum T n (tE T n (tE T n (tE T n e0))))) ≤ 4)) := of_decide_eq_true c9
            have hnh := (tClip_in (v := tNum T n (tE T n (tE T n (tE T n e0)))) (lo := 0) (hi := 60) (by decide) (by decide)).mp (by omega)
            have hch := tClip_eq (by decide) (by decide) hnh
            refine fV_aload_n (pc' := 99) G 5 dX1_readWord_98 rfl rfl rfl ?_
            obtain ⟨I10, eI10⟩ : ∃ J9 : fM, J9 = tStep I8 := ⟨_, rfl⟩
            refine fV_callVf (I' := I10) (st' := []) (n := 0) (k := 212) (K := 1) (As := []) (rest := []) (pc' := 102) G (by rw [eI10]; exact mX1_stp l Γ hN I8 P hn hT he_I8 tb_I8) kcX1_readWord_19 (by omega) rfl rfl rfl rfl (Nat.le_of_ble_eq_true rfl) (Nat.zero_le _) (Nat.zero_le _) dX1_readWord_99 rfl rfl ?_
            have at_I10 : tAt I10 T n (tE T n (tE T n (tE T n (tE T n e0)))) := by rw [eI10]; exact (tAt_st tb_I8).1
            have tb_I10 : tB I10 T n (tE T n (tE T n (tE T n (tE T n (tE T n e0))))) := by rw [eI10]; exact (tAt_st tb_I8).2
            have of_I10 : tOff I I10 := by rw [eI10]; exact tStep_off of_I8
            have sb_I10 := tS_b (T := T) (n := n) (e := tE T n (tE T n (tE T n (tE T n e0)))) (by omega)
            have eb_I10 := tE_b (T := T) (n := n) (e := tE T n (tE T n (tE T n (tE T n e0)))) (by omega)
            have kb_I10 := tK_b T n (tE T n (tE T n (tE T n (tE T n e0))))
            have cb_I10 := tClip_b (T := T) (n := n) (e := tE T n (tE T n (tE T n (tE T n e0)))) (by omega)
            have he_I10 : 0 ≤ tE T n (tE T n (tE T n (tE T n (tE T n e0)))) ∧ tE T n (tE T n (tE T n (tE T n (tE T n e0)))) ≤ n := by omega
            have hwb := tWay_b T n (tE T n (tE T n (tE T n (tE T n e0))))
            refine fV_aload_n (pc' := 103) G 5 dX1_readWord_102 rfl rfl rfl ?_
            refine fV_callVf (st' := [.int (i32 (tWay T n (tE T n (tE T n (tE T n (tE T n e0))))))]) (n := 0) (k := 212) (K := 1) (As := []) (rest := []) (pc' := 106) G (mX1_wayOf l Γ hN I10 P hn hT he_I8 at_I10) kcX1_readWord_63 (by omega) rfl rfl rfl rfl (Nat.le_of_ble_eq_true rfl) (Nat.zero_le _) (Nat.zero_le _) dX1_readWord_103 rfl rfl ?_
            refine fV_istore (lv' := [(7, .int (i32 (tWay T n (tE T n (tE T n (tE T n (tE T n e0))))))), (6, .int (i32 (tClip (tNum T n (tE T n (tE T n (tE T n e0))))))), (5, .int (i32 (tClip (tNum T n (tE T n (tE T n e0)))))), (4, .int (i32 (tClip (tNum T n (tE T n e0))))), (3, .int (i32 ((tE T n e0) - (tS T n e0)))), (2, .int (i32 (tS T n e0))), (0, .ref (Γ.1 212)), (1, .ref (Γ.1 sc))]) (pc' := 108) G dX1_readWord_106 (by decide) rfl rfl ?_
            refine fV_iload (pc' := 110) G 0 dX1_readWord_108 rfl rfl ?_
            refine fV_if_eq (tgt := 117) (pc' := 113) G dX1_readWord_110 (by decide) rfl (by omega) (fun c11 => ?_) (fun c11 => ?_)
            · have hwe := tWe_0 c11
              refine fV_aload_n (pc' := 118) G 6 dX1_readWord_117 rfl rfl rfl ?_
              refine fV_get (K := 1) (v := .int (i32 (I10 212 2))) (pc' := 121) G kfX1_readWord_22 (by omega) rfl rfl rfl dX1_readWord_118 rfl ?_
              refine fV_top (b := tK T n (tE T n (tE T n (tE T n (tE T n e0))))) (by rw [at_I10.2.2.1]) ?_
              refine fV_iconst (pc' := 122) G dX1_readWord_121 rfl ?_
              refine fV_icmp_eq (tgt := 127) (pc' := 125) G dX1_readWord_122 (by decide) rfl (by omega) (by decide) (fun c12 => ?_) (fun c12 => ?_)
              · refine fV_aload_n (pc' := 128) G 7 dX1_readWord_127 rfl rfl rfl ?_
                refine fV_iload_n (pc' := 129) G 4 dX1_readWord_128 rfl rfl rfl ?_
                refine fV_iload (pc' := 131) G 3 dX1_readWord_129 rfl rfl ?_
                refine fV_iload (pc' := 133) G 2 dX1_readWord_131 rfl rfl ?_
                refine fV_iload (pc' := 135) G 1 dX1_readWord_133 rfl rfl ?_
                refine fV_iload (pc' := 137) G 0 dX1_readWord_135 rfl rfl ?_
                have sc_I10 : I10 sc = I sc := of_I10.1 sc (by omega)
                have hs1_I10 : I sc 1 = sr 0 := hr.1
                obtain ⟨I13, eI13⟩ : ∃ J9 : fM, J9 = xApp I10 P sc ((tE T n e0) - (tS T n e0)) (tClip (tNum T n (tE T n e0))) (tClip (tNum T n (tE T n (tE T n e0)))) (tClip (tNum T n (tE T n (tE T n (tE T n e0))))) (tWay T n (tE T n (tE T n (tE T n (tE T n e0))))) := ⟨_, rfl⟩
                refine fV_callVf (I' := I13) (st' := [.ref (Γ.1 (P (sc + 1) (I10 sc 1)))]) (n := 5) (k := sc) (K := 0) (As := [.int (i32 ((tE T n e0) - (tS T n e0))), .int (i32 (tClip (tNum T n (tE T n e0)))), .int (i32 (tClip (tNum T n (tE T n (tE T n e0))))), .int (i32 (tClip (tNum T n (tE T n (tE T n (tE T n e0)))))), .int (i32 (tWay T n (tE T n (tE T n (tE T n (tE T n e0))))))]) (rest := []) (pc' := 140) G (by rw [eI13]; exact mX0_appendWord l Γ hN I10 P hs hpP (by rw [sc_I10]; omega) ((tE T n e0) - (tS T n e0)) (tClip (tNum T n (tE T n e0))) (tClip (tNum T n (tE T n (tE T n e0)))) (tClip (tNum T n (tE T n (tE T n (tE T n e0))))) (tWay T n (tE T n (tE T n (tE T n (tE T n e0))))) (by omega)) kcX1_readWord_66 (by omega) hs1 rfl rfl rfl (Nat.le_of_ble_eq_true rfl) (Nat.zero_le _) (Nat.zero_le _) dX1_readWord_137 rfl rfl ?_
                refine fV_st (st' := [.ref (Γ.1 (P (sc + 1) (sr 0)))]) (by rw [sc_I10, hs1_I10]) ?_
                obtain ⟨j9, hj9, ej9⟩ := hpP.1 (sr 0) hv0.1 h12
                refine fV_astore (lv' := [(8, .ref (Γ.1 (P (sc + 1) (sr 0)))), (7, .int (i32 (tWay T n (tE T n (tE T n (tE T n (tE T n e0))))))), (6, .int (i32 (tClip (tNum T n (tE T n (tE T n (tE T n e0))))))), (5, .int (i32 (tClip (tNum T n (tE T n (tE T n e0)))))), (4, .int (i32 (tClip (tNum T n (tE T n e0))))), (3, .int (i32 ((tE T n e0) - (tS T n e0)))), (2, .int (i32 (tS T n e0))), (0, .ref (Γ.1 212)), (1, .ref (Γ.1 sc))]) (pc' := 142) G dX1_readWord_140 (by decide) rfl rfl ?_
                refine fV_aload_n (pc' := 143) G 7 dX1_readWord_142 rfl rfl rfl ?_
                refine fV_get (K := 1) (v := .ref (Γ.1 213)) (pc' := 146) G kfX1_readWord_9 (by omega) rfl rfl rfl dX1_readWord_143 rfl ?_
                refine fV_iload_n (pc' := 147) G 6 dX1_readWord_146 rfl rfl rfl ?_
                refine fV_aload (pc' := 149) G 0 dX1_readWord_147 rfl rfl ?_
                refine fV_get (K := 2) (v := .ref (Γ.1 ((P (sc + 1) (sr 0)) + 1))) (pc' := 152) G kfX1_readWord_70 (by omega) (fPs_w hs hpP hv0.1 h12).2.1 rfl rfl dX1_readWord_149 rfl ?_
                refine fV_iconst (pc' := 153) G dX1_readWord_152 rfl ?_
                refine fV_iload_n (pc' := 154) G 5 dX1_readWord_153 rfl rfl rfl ?_
                refine fV_copy (K1 := 7) (n1 := 160) (K2 := 5) (n2 := 12) (pc' := 157) G kcX1_readWord_75 ⟨Nat.le_of_ble_eq_true rfl, Nat.le_of_ble_eq_true rfl⟩ (by omega) rfl (fun _ _ => rfl) (by omega) (fPs_w hs hpP hv0.1 h12).2.2 (fun _ _ => rfl) (by decide) (by decide) (by omega) dX1_readWord_154 rfl (fun I14 eI14 => ?_)
                refine fV_iconst (pc' := 158) G dX1_readWord_157 rfl ?_
                refine fV_zret (b := true) G dX1_readWord_158 ?_
                have lw : 1 ≤ tE T n e0 - tS T n e0 := by have := eb_I1.2.2 (by omega); omega
                have ex : tOff (xWrd I P sc (tS T n e0) (tE T n e0 - tS T n e0) (tNum T n (tE T n e0)) (tNum T n (tE T n (tE T n e0))) (tNum T n (tE T n (tE T n (tE T n e0)))) (tWay T n (tE T n (tE T n (tE T n (tE T n e0)))))) I14 := by rw [eI14, eI13, hcf, hcsp, hch]; unfold xWrd; rw [hs1_I10]; exact tOff_cp (tOff_app of_I10 hs hpP (by omega)) (by omega) (by decide)
                have e4 : I14 212 4 = tE T n (tE T n (tE T n (tE T n (tE T n e0)))) := by rw [eI14, fcpy_k (by omega), eI13, xApp_o hs hpP (by rw [sc_I10]; omega) (by omega)]; exact at_I10.2.2.2.2
                exact ⟨by unfold pWord; rw [if_pos ⟨by omega, by omega⟩, if_pos hnf, if_pos hnsp, if_pos hnh, hwe, if_pos (by omega)]; exact ⟨rfl, ex, e4, by omega, hnf, hnsp, hnh, hwb, by omega, by omega, by rw [hb.2.1]; omega⟩, rfl⟩
              · refine fV_iconst (pc' := 126) G dX1_readWord_125 rfl ?_
                refine fV_zret (b := false) G dX1_readWord_126 ?_
                exact ⟨by unfold pWord; rw [if_pos ⟨by omega, by omega⟩, if_pos hnf, if_pos hnsp, if_pos hnh, hwe, if_neg (by omega)]; exact ⟨rfl, of_I10, at_I10.2.2.2.1⟩, rfl⟩
            · have hwe := tWe_1 c11
              refine fV_aload_n (pc' := 114) G 6 dX1_readWord_113 rfl rfl rfl ?_
              obtain ⟨I12, eI12⟩ : ∃ J9 : fM, J9 = tStep I10 := ⟨_, rfl⟩
              refine fV_callVf (I' := I12) (st' := []) (n := 0) (k := 212) (K := 1) (As := []) (rest := []) (pc' := 117) G (by rw [eI12]; exact mX1_stp l Γ hN I10 P hn hT he_I10 tb_I10) kcX1_readWord_19 (by omega) rfl rfl rfl rfl (Nat.le_of_ble_eq_true rfl) (Nat.zero_le _) (Nat.zero_le _) dX1_readWord_114 rfl rfl ?_
              have at_I12 : tAt I12 T n (tE T n (tE T n (tE T n (tE T n (tE T n e0))))) := by rw [eI12]; exact (tAt_st tb_I10).1
              have tb_I12 : tB I12 T n (tE T n (tE T n (tE T n (tE T n (tE T n (tE T n e0)))))) := by rw [eI12]; exact (tAt_st tb_I10).2
              have of_I12 : tOff I I12 := by rw [eI12]; exact tStep_off of_I10
              have sb_I12 := tS_b (T := T) (n := n) (e := tE T n (tE T n (tE T n (tE T n (tE T n e0))))) (by omega)
              have eb_I12 := tE_b (T := T) (n := n) (e := tE T n (tE T n (tE T n (tE T n (tE T n e0))))) (by omega)
              have kb_I12 := tK_b T n (tE T n (tE T n (tE T n (tE T n (tE T n e0)))))
              have cb_I12 := tClip_b (T := T) (n := n) (e := tE T n (tE T n (tE T n (tE T n (tE T n e0))))) (by omega)
              have he_I12 : 0 ≤ tE T n (tE T n (tE T n (tE T n (tE T n (tE T n e0))))) ∧ tE T n (tE T n (tE T n (tE T n (tE T n (tE T n e0))))) ≤ n := by omega
              refine fV_aload_n (pc' := 118) G 6 dX1_readWord_117 rfl rfl rfl ?_
              refine fV_get (K := 1) (v := .int (i32 (I12 212 2))) (pc' := 121) G kfX1_readWord_22 (by omega) rfl rfl rfl dX1_readWord_118 rfl ?_
              refine fV_top (b := tK T n (tE T n (tE T n (tE T n (tE T n (tE T n e0)))))) (by rw [at_I12.2.2.1]) ?_
              refine fV_iconst (pc' := 122) G dX1_readWord_121 rfl ?_
              refine fV_icmp_eq (tgt := 127) (pc' := 125) G dX1_readWord_122 (by decide) rfl (by omega) (by decide) (fun c13 => ?_) (fun c13 => ?_)
              · refine fV_aload_n (pc' := 128) G 7 dX1_readWord_127 rfl rfl rfl ?_
                refine fV_iload_n (pc' := 129) G 4 dX1_readWord_128 rfl rfl rfl ?_
                refine fV_iload (pc' := 131) G 3 dX1_readWord_129 rfl rfl ?_
                refine fV_iload (pc' := 133) G 2 dX1_readWord_131 rfl rfl ?_
                refine fV_iload (pc' := 135) G 1 dX1_readWord_133 rfl rfl ?_
                refine fV_iload (pc' := 137) G 0 dX1_readWord_135 rfl rfl ?_
                have sc_I12 : I12 sc = I sc := of_I12.1 sc (by omega)
                have hs1_I12 : I sc 1 = sr 0 := hr.1
                obtain ⟨I14, eI14⟩ : ∃ J9 : fM, J9 = xApp I12 P sc ((tE T n e0) - (tS T n e0)) (tClip (tNum T n (tE T n e0))) (tClip (tNum T n (tE T n (tE T n e0)))) (tClip (tNum T n (tE T n (tE T n (tE T n e0))))) (tWay T n (tE T n (tE T n (tE T n (tE T n e0))))) := ⟨_, rfl⟩
                refine fV_callVf (I' := I14) (st' := [.ref (Γ.1 (P (sc + 1) (I12 sc 1)))]) (n := 5) (k := sc) (K := 0) (As := [.int (i32 ((tE T n e0) - (tS T n e0))), .int (i32 (tClip (tNum T n (tE T n e0)))), .int (i32 (tClip (tNum T n (tE T n (tE T n e0))))), .int (i32 (tClip (tNum T n (tE T n (tE T n (tE T n e0)))))), .int (i32 (tWay T n (tE T n (tE T n (tE T n (tE T n e0))))))]) (rest := []) (pc' := 140) G (by rw [eI14]; exact mX0_appendWord l Γ hN I12 P hs hpP (by rw [sc_I12]; omega) ((tE T n e0) - (tS T n e0)) (tClip (tNum T n (tE T n e0))) (tClip (tNum T n (tE T n (tE T n e0)))) (tClip (tNum T n (tE T n (tE T n (tE T n e0))))) (tWay T n (tE T n (tE T n (tE T n (tE T n e0))))) (by omega)) kcX1_readWord_66 (by omega) hs1 rfl rfl rfl (Nat.le_of_ble_eq_true rfl) (Nat.zero_le _) (Nat.zero_le _) dX1_readWord_137 rfl rfl ?_
                refine fV_st (st' := [.ref (Γ.1 (P (sc + 1) (sr 0)))]) (by rw [sc_I12, hs1_I12]) ?_
                obtain ⟨j9, hj9, ej9⟩ := hpP.1 (sr 0) hv0.1 h12
                refine fV_astore (lv' := [(8, .ref (Γ.1 (P (sc + 1) (sr 0)))), (7, .int (i32 (tWay T n (tE T n (tE T n (tE T n (tE T n e0))))))), (6, .int (i32 (tClip (tNum T n (tE T n (tE T n (tE T n e0))))))), (5, .int (i32 (tClip (tNum T n (tE T n (tE T n e0)))))), (4, .int (i32 (tClip (tNum T n (tE T n e0))))), (3, .int (i32 ((tE T n e0) - (tS T n e0)))), (2, .int (i32 (tS T n e0))), (0, .ref (Γ.1 212)), (1, .ref (Γ.1 sc))]) (pc' := 142) G dX1_readWord_140 (by decide) rfl rfl ?_
                refine fV_aload_n (pc' := 143) G 7 dX1_readWord_142 rfl rfl rfl ?_
                refine fV_get (K := 1) (v := .ref (Γ.1 213)) (pc' := 146) G kfX1_readWord_9 (by omega) rfl rfl rfl dX1_readWord_143 rfl ?_
                refine fV_iload_n (pc' := 147) G 6 dX1_readWord_146 rfl rfl rfl ?_
                refine fV_aload (pc' := 149) G 0 dX1_readWord_147 rfl rfl ?_
                refine fV_get (K := 2) (v := .ref (Γ.1 ((P (sc + 1) (sr 0)) + 1))) (pc' := 152) G kfX1_readWord_70 (by omega) (fPs_w hs hpP hv0.1 h12).2.1 rfl rfl dX1_readWord_149 rfl ?_
                refine fV_iconst (pc' := 153) G dX1_readWord_152 rfl ?_
                refine fV_iload_n (pc' := 154) G 5 dX1_readWord_153 rfl rfl rfl ?_
                refine fV_copy (K1 := 7) (n1 := 160) (K2 := 5) (n2 := 12) (pc' := 157) G kcX1_readWord_75 ⟨Nat.le_of_ble_eq_true rfl, Nat.le_of_ble_eq_true rfl⟩ (by omega) rfl (fun _ _ => rfl) (by omega) (fPs_w hs hpP hv0.1 h12).2.2 (fun _ _ => rfl) (by decide) (by decide) (by omega) dX1_readWord_154 rfl (fun I15 eI15 => ?_)
                refine fV_iconst (pc' := 158) G dX1_readWord_157 rfl ?_
                refine fV_zret (b := true) G dX1_readWord_158 ?_
                have lw : 1 ≤ tE T n e0 - tS T n e0 := by have := eb_I1.2.2 (by omega); omega
                have ex : tOff (xWrd I P sc (tS T n e0) (tE T n e0 - tS T n e0) (tNum T n (tE T n e0)) (tNum T n (tE T n (tE T n e0))) (tNum T n (tE T n (tE T n (tE T n e0)))) (tWay T n (tE T n (tE T n (tE T n (tE T n e0)))))) I15 := by rw [eI15, eI14, hcf, hcsp, hch]; unfold xWrd; rw [hs1_I12]; exact tOff_cp (tOff_app of_I12 hs hpP (by omega)) (by omega) (by decide)
                have e4 : I15 212 4 = tE T n (tE T n (tE T n (tE T n (tE T n (tE T n e0))))) := by rw [eI15, fcpy_k (by omega), eI14, xApp_o hs hpP (by rw [sc_I12]; omega) (by omega)]; exact at_I12.2.2.2.2
                exact ⟨by unfold pWord; rw [if_pos ⟨by omega, by omega⟩, if_pos hnf, if_pos hnsp, if_pos hnh, hwe, if_pos (by omega)]; exact ⟨rfl, ex, e4, by omega, hnf, hnsp, hnh, hwb, by omega, by omega, by rw [hb.2.1]; omega⟩, rfl⟩
              · refine fV_iconst (pc' := 126) G dX1_readWord_125 rfl ?_
                refine fV_zret (b := false) G dX1_readWord_126 ?_
                exact ⟨by unfold pWord; rw [if_pos ⟨by omega, by omega⟩, if_pos hnf, if_pos hnsp, if_pos hnh, hwe, if_neg (by omega)]; exact ⟨rfl, of_I12, at_I12.2.2.2.1⟩, rfl⟩
          · have d9 : ¬ (((2 : Int) = 0 ∧ 0 ≤ (tClip (tNum T n (tE T n (tE T n (tE T n e0))))) ∧ (tClip (tNum T n (tE T n (tE T n (tE T n e0))))) ≤ 2000) ∨ ((2 : Int) = 1 ∧ 1 ≤ (tClip (tNum T n (tE T n (tE T n (tE T n e0))))) ∧ (tClip (tNum T n (tE T n (tE T n (tE T n e0))))) ≤ 60) ∨ ((2 : Int) = 2 ∧ 0 ≤ (tClip (tNum T n (tE T n (tE T n (tE T n e0))))) ∧ (tClip (tNum T n (tE T n (tE T n (tE T n e0))))) ≤ 60) ∨ ((2 : Int) = 3 ∧ 0 ≤ (tClip (tNum T n (tE T n (tE T n (tE T n e0))))) ∧ (tClip (tNum T n (tE T n (tE T n (tE T n e0))))) ≤ 4)) := of_decide_eq_false c9
            have hx : ¬ (0 ≤ tNum T n (tE T n (tE T n (tE T n e0))) ∧ tNum T n (tE T n (tE T n (tE T n e0))) ≤ 60) := fun z => by have := (tClip_in (by decide) (by decide)).mpr z; omega
            refine fV_iconst (pc' := 97) G dX1_readWord_96 rfl ?_
            refine fV_zret (b := false) G dX1_readWord_97 ?_
            exact ⟨by unfold pWord; rw [if_pos ⟨by omega, by omega⟩, if_pos hnf, if_pos hnsp, if_neg hx]; exact ⟨rfl, of_I8, at_I8.2.2.2.1⟩, rfl⟩
        · have d7 : ¬ (((1 : Int) = 0 ∧ 0 ≤ (tClip (tNum T n (tE T n (tE T n e0)))) ∧ (tClip (tNum T n (tE T n (tE T n e0)))) ≤ 2000) ∨ ((1 : Int) = 1 ∧ 1 ≤ (tClip (tNum T n (tE T n (tE T n e0)))) ∧ (tClip (tNum T n (tE T n (tE T n e0)))) ≤ 60) ∨ ((1 : Int) = 2 ∧ 0 ≤ (tClip (tNum T n (tE T n (tE T n e0)))) ∧ (tClip (tNum T n (tE T n (tE T n e0)))) ≤ 60) ∨ ((1 : Int) = 3 ∧ 0 ≤ (tClip (tNum T n (tE T n (tE T n e0)))) ∧ (tClip (tNum T n (tE T n (tE T n e0)))) ≤ 4)) := of_decide_eq_false c7
          have hx : ¬ (1 ≤ tNum T n (tE T n (tE T n e0)) ∧ tNum T n (tE T n (tE T n e0)) ≤ 60) := fun z => by have := (tClip_in (by decide) (by decide)).mpr z; omega
          refine fV_iconst (pc' := 76) G dX1_readWord_75 rfl ?_
          refine fV_zret (b := false) G dX1_readWord_76 ?_
          exact ⟨by unfold pWord; rw [if_pos ⟨by omega, by omega⟩, if_pos hnf, if_neg hx]; exact ⟨rfl, of_I6, at_I6.2.2.2.1⟩, rfl⟩
      · have d5 : ¬ (((0 : Int) = 0 ∧ 0 ≤ (tClip (tNum T n (tE T n e0))) ∧ (tClip (tNum T n (tE T n e0))) ≤ 2000) ∨ ((0 : Int) = 1 ∧ 1 ≤ (tClip (tNum T n (tE T n e0))) ∧ (tClip (tNum T n (tE T n e0))) ≤ 60) ∨ ((0 : Int) = 2 ∧ 0 ≤ (tClip (tNum T n (tE T n e0))) ∧ (tClip (tNum T n (tE T n e0))) ≤ 60) ∨ ((0 : Int) = 3 ∧ 0 ≤ (tClip (tNum T n (tE T n e0))) ∧ (tClip (tNum T n (tE T n e0))) ≤ 4)) := of_decide_eq_false c5
        have hx : ¬ (0 ≤ tNum T n (tE T n e0) ∧ tNum T n (tE T n e0) ≤ 2000) := fun z => by have := (tClip_in (by decide) (by decide)).mpr z; omega
        refine fV_iconst (pc' := 55) G dX1_readWord_54 rfl ?_
        refine fV_zret (b := false) G dX1_readWord_55 ?_
        exact ⟨by unfold pWord; rw [if_pos ⟨by omega, by omega⟩, if_neg hx]; exact ⟨rfl, of_I4, at_I4.2.2.2.1⟩, rfl⟩
    · refine fV_iconst (pc' := 34) G dX1_readWord_33 rfl ?_
      refine fV_zret (b := false) G dX1_readWord_34 ?_
      exact ⟨by unfold pWord; rw [if_neg (by omega)]; exact ⟨rfl, of_I1, at_I1.2.2.2.1⟩, rfl⟩
set_option maxHeartbeats 4000000 in
set_option maxRecDepth 100000 in
theorem mX1_readItem (l : Launch) (Γ : fG) {N : Nat} (hN : 214 ≤ N) (I : fM) (P : fN) {T : Int → Int} {n : Int} (hn : 0 ≤ n ∧ n ≤ 160) (hT : tOk T n) {e0 : Int} (he : 0 ≤ e0 ∧ e0 ≤ n) (h : tAt I T n e0) {sc : Nat} (hs : fSc sc) {sr : Int → Int} (hpP : fPs P sc) (hr : Rel I P sc sr) (hv : mOkr sr) (hd : sDi sr) : fMet l yX1_readItem wsX1_readItem rmX1_readItem Γ N [.ref (Γ.1 212), .ref (Γ.1 sc)] I P (fun v J Q => itP I P sc (pItem T n sr e0) v J ∧ Q = P) := by
  refine fMet_of (own := RX1) (cc := cX1_readItem) (maxL := 2) (ret := (some .boolean)) rfl (by decide +kernel) rfl (Nat.le_of_ble_eq_true rfl) ?_
  intro p e s m args below meth c G
  obtain ⟨hs0, hs1, hs2, hs3, hs4, hs5, hs6⟩ := fSc_k hs
  have hv0 := hv.1.1
  have hv1 := hv.1.2.1
  refine fV_lv (lv' := [(0, .ref (Γ.1 212)), (1, .ref (Γ.1 sc))]) [0, 1] rfl ?_
  refine fV_aload_n (pc' := 1) G 0 dX1_readItem_0 rfl rfl rfl ?_
  refine fV_ldcS (i := 0) (index := 32) (pc' := 3) G (by decide) rfl dX1_readItem_1 rfl ?_
  refine fV_callVf (st' := [.int (i32 (fB (tNmB T n e0 0)))]) (n := 1) (k := 212) (K := 1) (As := [.ref (Γ.2.2.2 (1 + 0))]) (rest := []) (pc' := 6) G (mX1_nam l Γ hN I P hn hT he h 0 (by decide)) kcX1_readItem_34 (by omega) rfl rfl rfl rfl (Nat.le_of_ble_eq_true rfl) (Nat.zero_le _) (Nat.zero_le _) dX1_readItem_3 rfl rfl ?_
  refine fV_ifeq_b (tgt := 22) (pc' := 9) G dX1_readItem_6 (by decide) rfl (fun c1 => ?_) (fun c1 => ?_)
  · refine fV_aload_n (pc' := 23) G 0 dX1_readItem_22 rfl rfl rfl ?_
    refine fV_ldcS (i := 1) (index := 47) (pc' := 25) G (by decide) rfl dX1_readItem_23 rfl ?_
    refine fV_callVf (st' := [.int (i32 (fB (tNmB T n e0 1)))]) (n := 1) (k := 212) (K := 1) (As := [.ref (Γ.2.2.2 (1 + 1))]) (rest := []) (pc' := 28) G (mX1_nam l Γ hN I P hn hT he h 1 (by decide)) kcX1_readItem_34 (by omega) rfl rfl rfl rfl (Nat.le_of_ble_eq_true rfl) (Nat.zero_le _) (Nat.zero_le _) dX1_readItem_25 rfl rfl ?_
    refine fV_ifeq_b (tgt := 44) (pc' := 31) G dX1_readItem_28 (by decide) rfl (fun c2 => ?_) (fun c2 => ?_)
    · refine fV_iconst (pc' := 45) G dX1_readItem_44 rfl ?_
      refine fV_zret (b := false) G dX1_readItem_45 ?_
      exact ⟨by unfold pItem; rw [if_neg (by first | (intro z; have := hr.1; omega) | (intro z; simp [*] at z; done)), if_neg (by first | (intro z; have := hr.2.1; omega) | (intro z; simp [*] at z; done))]; exact ⟨rfl, tOff_r I, h.2.2.2.1⟩, rfl⟩
    · refine fV_aload_n (pc' := 32) G 1 dX1_readItem_31 rfl rfl rfl ?_
      refine fV_callVf (st' := [.int (i32 (fB (decide (I sc 3 < 10))))]) (n := 0) (k := sc) (K := 0) (As := []) (rest := []) (pc' := 35) G (mX0_hasRoomForShot l Γ hN I P hs (by rw [hr.2.1]; omega)) kcX1_readItem_49 (by omega) hs1 rfl rfl rfl (Nat.le_of_ble_eq_true rfl) (Nat.zero_le _) (Nat.zero_le _) dX1_readItem_32 rfl rfl ?_
      refine fV_ifeq_b (tgt := 44) (pc' := 38) G dX1_readItem_35 (by decide) rfl (fun c3 => ?_) (fun c3 => ?_)
      · have d3 : ¬ (I sc 3 < 10) := of_decide_eq_false c3
        refine fV_iconst (pc' := 45) G dX1_readItem_44 rfl ?_
        refine fV_zret (b := false) G dX1_readItem_45 ?_
        exact ⟨by unfold pItem; rw [if_neg (by first | (intro z; have := hr.1; omega) | (intro z; simp [*] at z; done)), if_neg (by first | (intro z; have := hr.2.1; omega) | (intro z; simp [*] at z; done))]; exact ⟨rfl, tOff_r I, h.2.2.2.1⟩, rfl⟩
      · have d3 : (I sc 3 < 10) := of_decide_eq_true c3
        refine fV_aload_n (pc' := 39) G 0 dX1_readItem_38 rfl rfl rfl ?_
        refine fV_aload_n (pc' := 40) G 1 dX1_readItem_39 rfl rfl rfl ?_
        refine fV_callV (n := 1) (k := 212) (K := 1) (As := [.ref (Γ.1 sc)]) (rest := []) (pc' := 43) G (mX1_readShot l Γ hN I P hn hT (tAt_b he h).2 (tAt_b he h).1 hs hpP hr hv hd (by have := hr.2.1; omega)) kcX1_readItem_52 (by omega) rfl rfl rfl rfl (Nat.le_of_ble_eq_true rfl) (Nat.zero_le _) (Nat.zero_le _) dX1_readItem_40 rfl (fun v4 I5 P6 h7 => ?_)
        obtain ⟨hit, eP6⟩ := h7
        obtain ⟨b5, hv5⟩ := it_v hit
        refine fV_st (st' := [.int (i32 (fB b5))]) (by rw [hv5]; rfl) ?_
        refine fV_zret G dX1_readItem_43 ?_
        exact ⟨by unfold pItem; rw [if_neg (by first | (intro z; have := hr.1; omega) | (intro z; simp [*] at z; done)), if_pos ⟨by assumption, by have := hr.2.1; omega⟩, ← hv5]; exact hit, eP6⟩
  · refine fV_aload_n (pc' := 10) G 1 dX1_readItem_9 rfl rfl rfl ?_
    refine fV_callVf (st' := [.int (i32 (fB (decide (I sc 1 < 12))))]) (n := 0) (k := sc) (K := 0) (As := []) (rest := []) (pc' := 13) G (mX0_hasRoomForWord l Γ hN I P hs (by rw [hr.1]; omega)) kcX1_readItem_38 (by omega) hs1 rfl rfl rfl (Nat.le_of_ble_eq_true rfl) (Nat.zero_le _) (Nat.zero_le _) dX1_readItem_10 rfl rfl ?_
    refine fV_ifeq_b (tgt := 22) (pc' := 16) G dX1_readItem_13 (by decide) rfl (fun c2 => ?_) (fun c2 => ?_)
    · have d2 : ¬ (I sc 1 < 12) := of_decide_eq_false c2
      refine fV_aload_n (pc' := 23) G 0 dX1_readItem_22 rfl rfl rfl ?_
      refine fV_ldcS (i := 1) (index := 47) (pc' := 25) G (by decide) rfl dX1_readItem_23 rfl ?_
      refine fV_callVf (st' := [.int (i32 (fB (tNmB T n e0 1)))]) (n := 1) (k := 212) (K := 1) (As := [.ref (Γ.2.2.2 (1 + 1))]) (rest := []) (pc' := 28) G (mX1_nam l Γ hN I P hn hT he h 1 (by decide)) kcX1_readItem_34 (by omega) rfl rfl rfl rfl (Nat.le_of_ble_eq_true rfl) (Nat.zero_le _) (Nat.zero_le _) dX1_readItem_25 rfl rfl ?_
      refine fV_ifeq_b (tgt := 44) (pc' := 31) G dX1_readItem_28 (by decide) rfl (fun c3 => ?_) (fun c3 => ?_)
      · refine fV_iconst (pc' := 45) G dX1_readItem_44 rfl ?_
        refine fV_zret (b := false) G dX1_readItem_45 ?_
        exact ⟨by unfold pItem; rw [if_neg (by first | (intro z; have := hr.1; omega) | (intro z; simp [*] at z; done)), if_neg (by first | (intro z; have := hr.2.1; omega) | (intro z; simp [*] at z; done))]; exact ⟨rfl, tOff_r I, h.2.2.2.1⟩, rfl⟩
      · refine fV_aload_n (pc' := 32) G 1 dX1_readItem_31 rfl rfl rfl ?_
        refine fV_callVf (st' := [.int (i32 (fB (decide (I sc 3 < 10))))]) (n := 0) (k := sc) (K := 0) (As := []) (rest := []) (pc' := 35) G (mX0_hasRoomForShot l Γ hN I P hs (by rw [hr.2.1]; omega)) kcX1_readItem_49 (by omega) hs1 rfl rfl rfl (Nat.le_of_ble_eq_true rfl) (Nat.zero_le _) (Nat.zero_le _) dX1_readItem_32 rfl rfl ?_
        refine fV_ifeq_b (tgt := 44) (pc' := 38) G dX1_readItem_35 (by decide) rfl (fun c4 => ?_) (fun c4 => ?_)
        · have d4 : ¬ (I sc 3 < 10) := of_decide_eq_false c4
          refine fV_iconst (pc' := 45) G dX1_readItem_44 rfl ?_
          refine fV_zret (b := false) G dX1_readItem_45 ?_
          exact ⟨by unfold pItem; rw [if_neg (by first | (intro z; have := hr.1; omega) | (intro z; simp [*] at z; done)), if_neg (by first | (intro z; have := hr.2.1; omega) | (intro z; simp [*] at z; done))]; exact ⟨rfl, tOff_r I, h.2.2.2.1⟩, rfl⟩
        · have d4 : (I sc 3 < 10) := of_decide_eq_true c4
          refine fV_aload_n (pc' := 39) G 0 dX1_readItem_38 rfl rfl rfl ?_
          refine fV_aload_n (pc' := 40) G 1 dX1_readItem_39 rfl rfl rfl ?_
          refine fV_callV (n := 1) (k := 212) (K := 1) (As := [.ref (Γ.1 sc)]) (rest := []) (pc' := 43) G (mX1_readShot l Γ hN I P hn hT (tAt_b he h).2 (tAt_b he h).1 hs hpP hr hv hd (by have := hr.2.1; omega)) kcX1_readItem_52 (by omega) rfl rfl rfl rfl (Nat.le_of_ble_eq_true rfl) (Nat.zero_le _) (Nat.zero_le _) dX1_readItem_40 rfl (fun v5 I6 P7 h8 => ?_)
          obtain ⟨hit, eP7⟩ := h8
          obtain ⟨b5, hv5⟩ := it_v hit
          refine fV_st (st' := [.int (i32 (fB b5))]) (by rw [hv5]; rfl) ?_
          refine fV_zret G dX1_readItem_43 ?_
          exact ⟨by unfold pItem; rw [if_neg (by first | (intro z; have := hr.1; omega) | (intro z; simp [*] at z; done)), if_pos ⟨by assumption, by have := hr.2.1; omega⟩, ← hv5]; exact hit, eP7⟩
    · have d2 : (I sc 1 < 12) := of_decide_eq_true c2
      refine fV_aload_n (pc' := 17) G 0 dX1_readItem_16 rfl rfl rfl ?_
      refine fV_aload_n (pc' := 18) G 1 dX1_readItem_17 rfl rfl rfl ?_
      refine fV_callV (n := 1) (k := 212) (K := 1) (As := [.ref (Γ.1 sc)]) (rest := []) (pc' := 21) G (mX1_readWord l Γ hN I P hn hT (tAt_b he h).2 (tAt_b he h).1 hs hpP hr hv hd (by have := hr.1; omega)) kcX1_readItem_44 (by omega) rfl rfl rfl rfl (Nat.le_of_ble_eq_true rfl) (Nat.zero_le _) (Nat.zero_le _) dX1_readItem_18 rfl (fun v3 I4 P5 h6 => ?_)
      obtain ⟨hit, eP5⟩ := h6
      obtain ⟨b5, hv5⟩ := it_v hit
      refine fV_st (st' := [.int (i32 (fB b5))]) (by rw [hv5]; rfl) ?_
      refine fV_zret G dX1_readItem_21 ?_
      exact ⟨by unfold pItem; rw [if_pos ⟨by assumption, by have := hr.1; omega⟩, ← hv5]; exact hit, eP5⟩
set_option maxHeartbeats 4000000 in
set_option maxRecDepth 100000 in
theorem mX1_readInto (l : Launch) (Γ : fG) {N : Nat} (hN : 214 ≤ N) (I : fM) (P : fN) {T : Int → Int} {n : Int} (hn : 0 ≤ n ∧ n ≤ 160) (hT : tOk T n) (hb : I 213 = T ∧ I 212 1 = n) {sc : Nat} (hs : fSc sc) {sr : Int → Int} (hpP : fPs P sc) (hr : Rel I P sc sr) (hv : mOkr sr) (hd : sDi sr) : fMet l yX1_readInto wsX1_readInto rmX1_readInto Γ N [.ref (Γ.1 212), .ref (Γ.1 sc)] I P (fun v J Q => v = some (.int (i32 (pLoad T n 23 sr 0 0).1)) ∧ (-2000 ≤ (pLoad T n 23 sr 0 0).1 ∧ (pLoad T n 23 sr 0 0).1 ≤ 22) ∧ (0 ≤ (pLoad T n 23 sr 0 0).1 → Rel J P sc (pLoad T n 23 sr 0 0).2 ∧ mOkr (pLoad T n 23 sr 0 0).2 ∧ sDi (pLoad T n 23 sr 0 0).2) ∧ oEq I J sc ∧ Q = P) := by
  refine fMet_of (own := RX1) (cc := cX1_readInto) (maxL := 3) (ret := (some .int)) rfl (by decide +kernel) rfl (Nat.le_of_ble_eq_true rfl) ?_
  intro p e s m args below meth c G
  obtain ⟨hs0, hs1, hs2, hs3, hs4, hs5, hs6⟩ := fSc_k hs
  have hv0 := hv.1.1
  have hv1 := hv.1.2.1
  refine fV_lv (lv' := [(0, .ref (Γ.1 212)), (1, .ref (Γ.1 sc))]) [0, 1] rfl ?_
  refine fV_aload_n (pc' := 1) G 0 dX1_readInto_0 rfl rfl rfl ?_
  refine fV_iconst (pc' := 2) G dX1_readInto_1 rfl ?_
  refine fV_put (K := 1) (jj := 4) (x := 0) (v := .int (i32 0)) (ty := .int) (pc' := 5) G kfX1_readInto_15 (by omega) rfl rfl rfl kp1_4 rfl rfl (Nat.le_of_ble_eq_true rfl) dX1_readInto_2 rfl (fun I1 eI1 => ?_)
  refine fV_iconst (pc' := 6) G dX1_readInto_5 rfl ?_
  refine fV_istore_n (lv' := [(2, .int (i32 0)), (0, .ref (Γ.1 212)), (1, .ref (Γ.1 sc))]) (pc' := 7) G dX1_readInto_6 rfl (by decide) rfl rfl ?_
  have lp : ∀ (z : Nat) (i9 : Int) (t9 : Int → Int) (f9 : Int) (J : fM), 0 ≤ i9 ∧ i9 ≤ t9 0 + t9 1 → Rel J P sc t9 → mOkr t9 → sDi t9 → tB J T n f9 → 0 ≤ f9 ∧ f9 ≤ n → oEq I J sc → pLoad T n 23 sr 0 0 = pLoad T n (23 - i9).toNat t9 f9 i9 → ((23 - i9).toNat) = z → fV p l e rmX1_readInto s m args below meth c (MQ below (fQ Γ N (fun v J Q => v = some (.int (i32 (pLoad T n 23 sr 0 0).1)) ∧ (-2000 ≤ (pLoad T n 23 sr 0 0).1 ∧ (pLoad T n 23 sr 0 0).1 ≤ 22) ∧ (0 ≤ (pLoad T n 23 sr 0 0).1 → Rel J P sc (pLoad T n 23 sr 0 0).2 ∧ mOkr (pLoad T n 23 sr 0 0).2 ∧ sDi (pLoad T n 23 sr 0 0).2) ∧ oEq I J sc ∧ Q = P)) args s 0 0 (fA Γ N)) (fA Γ N) Γ N 3 0 0 J P 7 [(0, .ref (Γ.1 212)), (1, .ref (Γ.1 sc)), (2, .int (i32 i9))] [] := by
    intro z
    induction z using Nat.strongRecOn with
    | _ z ih_lp =>
      intro i9 t9 f9 J hi9 hr9 hv9 hd9 htb hf9 hoe hpl hz_lp
      have hb9 := hv9.1.1
      have hb8 := hv9.1.2.1
      refine fV_iload_n (pc' := 8) G 2 dX1_readInto_7 rfl rfl rfl ?_
      refine fV_bipush (n := 22) (pc' := 10) G dX1_readInto_8 rfl rfl ?_
      refine fV_icmp_gt (tgt := 49) (pc' := 13) G dX1_readInto_10 (by decide) rfl (by omega) (by decide) (fun c102 => ?_) (fun c102 => ?_)
      · exact absurd hi9 (by omega)
      · refine fV_aload_n (pc' := 14) G 0 dX1_readInto_13 rfl rfl rfl ?_
        obtain ⟨I103, eI103⟩ : ∃ J9 : fM, J9 = tStep J := ⟨_, rfl⟩
        refine fV_callVf (I' := I103) (st' := []) (n := 0) (k := 212) (K := 1) (As := []) (rest := []) (pc' := 17) G (by rw [eI103]; exact mX1_stp l Γ hN J P hn hT hf9 htb) kcX1_readInto_19 (by omega) rfl rfl rfl rfl (Nat.le_of_ble_eq_true rfl) (Nat.zero_le _) (Nat.zero_le _) dX1_readInto_14 rfl rfl ?_
        have at_I103 : tAt I103 T n f9 := by rw [eI103]; exact (tAt_st htb).1
        have of_I103 : tOff J I103 := by rw [eI103]; exact tStep_off (tOff_r J)
        have kb_I103 := tK_b T n f9
        have re_I103 : Rel I103 P sc t9 := Rel_off hs hpP hv9 of_I103 hr9
        have oe_I103 : oEq I I103 sc := oEq_tr hoe (oEq_t of_I103)
        refine fV_aload_n (pc' := 18) G 0 dX1_readInto_17 rfl rfl rfl ?_
        refine fV_get (K := 1) (v := .int (i32 (I103 212 2))) (pc' := 21) G kfX1_readInto_22 (by omega) rfl rfl rfl dX1_readInto_18 rfl ?_
        refine fV_top (b := tK T n f9) (by rw [at_I103.2.2.1]) ?_
        refine fV_if_ne (tgt := 26) (pc' := 24) G dX1_readInto_21 (by decide) rfl (by omega) (fun c104 => ?_) (fun c104 => ?_)
        · refine fV_aload_n (pc' := 27) G 0 dX1_readInto_26 rfl rfl rfl ?_
          refine fV_aload_n (pc' := 28) G 1 dX1_readInto_27 rfl rfl rfl ?_
          refine fV_callV (n := 1) (k := 212) (K := 1) (As := [.ref (Γ.1 sc)]) (rest := []) (pc' := 31) G (mX1_readItem l Γ hN I103 P hn hT hf9 at_I103 hs hpP re_I103 hv9 hd9) kcX1_readInto_25 (by omega) rfl rfl rfl rfl (Nat.le_of_ble_eq_true rfl) (Nat.zero_le _) (Nat.zero_le _) dX1_readInto_28 rfl (fun v105 I106 P107 h108 => ?_)
          obtain ⟨hit, eP107⟩ := h108
          obtain ⟨b5, hv5, hbf, hbt⟩ := it_use hs hpP re_I103 hv9 hd9 at_I103.1 at_I103.2.1 hit
          refine fV_st (st' := [.int (i32 (fB b5))]) (by rw [hv5]; rfl) ?_
          refine fV_mem (I' := I106) (P' := P) rfl eP107 ?_
          refine fV_ifne_b (tgt := 43) (pc' := 34) G dX1_readInto_31 (by decide) rfl (fun c109 => ?_) (fun c109 => ?_)
          · obtain ⟨s2, e2, hk2, hr2, hv2, hd2, hc2, hJ4, he2, hoe2⟩ := hbt c109
            have hplq : pLoad T n (23 - i9).toNat t9 f9 i9 = pLoad T n (23 - (i9 + 1)).toNat s2 e2 (i9 + 1) := by rw [pLoad_s (by omega), if_neg (by omega)]; exact hk2 _ _
            have htb2 : tB I106 T n e2 := ⟨(hoe2.1 213 (by decide) (by omega)).trans at_I103.1, (hoe2.2 1 (by decide) (by decide) (by decide)).trans at_I103.2.1, hJ4⟩
            have hoe3 : oEq I I106 sc := oEq_tr oe_I103 hoe2
            refine fV_iinc (lv' := [(2, .int (i32 (i9 + 1))), (0, .ref (Γ.1 212)), (1, .ref (Γ.1 sc))]) (pc' := 46) G 2 dX1_readInto_43 rfl (by decide) rfl rfl ?_
            refine fV_goto (tgt := 7) G dX1_readInto_46 (by decide) ?_
            refine fV_lv (lv' := [(0, .ref (Γ.1 212)), (1, .ref (Γ.1 sc)), (2, .int (i32 (i9 + 1)))]) [1, 2, 0] rfl ?_
            exact ih_lp _ (by omega) (i9 + 1) s2 e2 I106 (by omega) hr2 hv2 hd2 htb2 he2 hoe3 (hpl.trans hplq) rfl
          · obtain ⟨p9, hp9, hp3, hpo⟩ := hbf c109
            have hplq : pLoad T n (23 - i9).toNat t9 f9 i9 = (-1000 - p9, t9) := by rw [pLoad_s (by omega), if_neg (by omega), hp9]
            have hp9b : 0 ≤ p9 ∧ p9 ≤ n := pItem_p hf9 hp9
            refine fV_sipush (n := -1000) (pc' := 37) G dX1_readInto_34 rfl rfl ?_
            refine fV_aload_n (pc' := 38) G 0 dX1_readInto_37 rfl rfl rfl ?_
            refine fV_get (K := 1) (v := .int (i32 (I106 212 3))) (pc' := 41) G kfX1_readInto_29 (by omega) rfl rfl rfl dX1_readInto_38 rfl ?_
            refine fV_top (b := p9) (by rw [hp3]) ?_
            refine fV_isub (pc' := 42) G dX1_readInto_41 rfl ?_
            refine fV_iret G dX1_readInto_42 ?_
            have hrr : pLoad T n 23 sr 0 0 = (-1000 - p9, t9) := by rw [hpl]; exact hplq
            exact ⟨by rw [hrr], by rw [hrr]; exact ⟨by omega, by omega⟩, fun z => by rw [hrr] at z; exact absurd z (by omega), oEq_tr oe_I103 (oEq_t hpo), rfl⟩
        · refine fV_iload_n (pc' := 25) G 2 dX1_readInto_24 rfl rfl rfl ?_
          refine fV_iret G dX1_readInto_25 ?_
          have hrr : pLoad T n 23 sr 0 0 = (i9, t9) := by rw [hpl, pLoad_s (by omega), if_pos (by omega)]
          exact ⟨by rw [hrr], by rw [hrr]; exact ⟨by omega, by omega⟩, fun _ => by rw [hrr]; exact ⟨re_I103, hv9, hd9⟩, oe_I103, rfl⟩
  refine fV_lv (lv' := [(0, .ref (Γ.1 212)), (1, .ref (Γ.1 sc)), (2, .int (i32 0))]) [1, 2, 0] rfl ?_
  exact lp _ 0 sr 0 I1 (by omega) (Rel_eq hpP rfl hv0.2 (by rw [eI1, fup_ne (by omega)]) (by rw [eI1, fup_ne (by omega)]) (fun a h1 h2 => by rw [eI1, fup_ne (by omega)]) hr) hv hd ⟨by rw [eI1, fup_ne (by decide)]; exact hb.1, by rw [eI1, fup_j (by decide)]; exact hb.2, by rw [eI1, fup_s]⟩ (by omega) (by rw [eI1]; exact ⟨fun a h1 _ => fup_ne h1, fun b _ _ h4 => fup_j h4⟩) rfl rfl
