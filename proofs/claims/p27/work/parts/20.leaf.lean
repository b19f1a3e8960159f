/-! CONTRACTS 1: the leaves (rows laid by wip/whole/gen/con1.py) -/
set_option maxHeartbeats 4000000 in
set_option maxRecDepth 100000 in
theorem mX3_isBetween (l : Launch) (Γ : fG) {N : Nat} (hN : 214 ≤ N) (I : fM) (P : fN) (v lo hi : Int) (h_v : -2147483648 ≤ v ∧ v ≤ 2147483647) (h_lo : -2147483648 ≤ lo ∧ lo ≤ 2147483647) (h_hi : -2147483648 ≤ hi ∧ hi ≤ 2147483647) : fMet l yX3_isBetween wsX3_isBetween rmX3_isBetween Γ N [.int (i32 v), .int (i32 lo), .int (i32 hi)] I P (fE (some (.int (i32 (fB (sBetw v lo hi))))) I P) := by
  refine fMet_of (own := RX3) (cc := cX3_isBetween) (maxL := 3) (ret := (some .boolean)) rfl (by decide +kernel) rfl (Nat.le_of_ble_eq_true rfl) ?_
  intro p e s m args below meth c G
  refine fV_lv (lv' := [(0, .int (i32 v)), (1, .int (i32 lo)), (2, .int (i32 hi))]) [0, 1, 2] rfl ?_
  refine fV_iload_n (pc' := 1) G 0 dX3_isBetween_0 rfl rfl rfl ?_
  refine fV_iload_n (pc' := 2) G 1 dX3_isBetween_1 rfl rfl rfl ?_
  refine fV_icmp_lt (tgt := 14) (pc' := 5) G dX3_isBetween_2 (by decide) rfl (by omega) (by omega) (fun c1 => ?_) (fun c1 => ?_)
  · refine fV_iconst (pc' := 15) G dX3_isBetween_14 rfl ?_
    refine fV_zret (b := false) G dX3_isBetween_15 ?_
    exact fE_b (by unfold sBetw; simp; omega)
  · refine fV_iload_n (pc' := 6) G 0 dX3_isBetween_5 rfl rfl rfl ?_
    refine fV_iload_n (pc' := 7) G 2 dX3_isBetween_6 rfl rfl rfl ?_
    refine fV_icmp_gt (tgt := 14) (pc' := 10) G dX3_isBetween_7 (by decide) rfl (by omega) (by omega) (fun c2 => ?_) (fun c2 => ?_)
    · refine fV_iconst (pc' := 15) G dX3_isBetween_14 rfl ?_
      refine fV_zret (b := false) G dX3_isBetween_15 ?_
      exact fE_b (by unfold sBetw; simp; omega)
    · refine fV_iconst (pc' := 11) G dX3_isBetween_10 rfl ?_
      refine fV_goto (tgt := 15) G dX3_isBetween_11 (by decide) ?_
      refine fV_zret (b := true) G dX3_isBetween_15 ?_
      exact fE_b (by unfold sBetw; simp; omega)
set_option maxHeartbeats 4000000 in
set_option maxRecDepth 100000 in
theorem mX3_isAskedFrame (l : Launch) (Γ : fG) {N : Nat} (hN : 214 ≤ N) (I : fM) (P : fN) (v : Int) (h_v : -2147483648 ≤ v ∧ v ≤ 2147483647) : fMet l yX3_isAskedFrame wsX3_isAskedFrame rmX3_isAskedFrame Γ N [.int (i32 v)] I P (fE (some (.int (i32 (fB (sBetw v 0 4000))))) I P) := by
  refine fMet_of (own := RX3) (cc := cX3_isAskedFrame) (maxL := 1) (ret := (some .boolean)) rfl (by decide +kernel) rfl (Nat.le_of_ble_eq_true rfl) ?_
  intro p e s m args below meth c G
  refine fV_lv (lv' := [(0, .int (i32 v))]) [0] rfl ?_
  refine fV_iload_n (pc' := 1) G 0 dX3_isAskedFrame_0 rfl rfl rfl ?_
  refine fV_iconst (pc' := 2) G dX3_isAskedFrame_1 rfl ?_
  refine fV_sipush (n := 4000) (pc' := 5) G dX3_isAskedFrame_2 rfl rfl ?_
  refine fV_callSf (st' := [.int (i32 (fB (sBetw v 0 4000)))]) (n := 3) (As := [.int (i32 v), .int (i32 0), .int (i32 4000)]) (rest := []) (pc' := 8) G (mX3_isBetween l Γ hN I P v 0 4000 (by omega) (by omega) (by omega)) kcX3_isAskedFrame_34 rfl rfl (by decide) (Nat.zero_le _) (Nat.zero_le _) dX3_isAskedFrame_5 rfl rfl ?_
  refine fV_zret G dX3_isAskedFrame_8 ?_
  exact fE_b (by rfl)
set_option maxHeartbeats 4000000 in
set_option maxRecDepth 100000 in
theorem mX3_isAllowed (l : Launch) (Γ : fG) {N : Nat} (hN : 214 ≤ N) (I : fM) (P : fN) (what v : Int) (h_what : -2147483648 ≤ what ∧ what ≤ 2147483647) (h_v : -2147483648 ≤ v ∧ v ≤ 2147483647) : fMet l yX3_isAllowed wsX3_isAllowed rmX3_isAllowed Γ N [.int (i32 what), .int (i32 v)] I P (fE (some (.int (i32 (fB (sAllowed what v))))) I P) := by
  refine fMet_of (own := RX3) (cc := cX3_isAllowed) (maxL := 2) (ret := (some .boolean)) rfl (by decide +kernel) rfl (Nat.le_of_ble_eq_true rfl) ?_
  intro p e s m args below meth c G
  refine fV_lv (lv' := [(0, .int (i32 what)), (1, .int (i32 v))]) [0, 1] rfl ?_
  refine fV_iload_n (pc' := 1) G 0 dX3_isAllowed_0 rfl rfl rfl ?_
  by_cases c1 : what = 0
  · refine fV_tableIn (off := 31) (tgt := 32) G dX3_isAllowed_1 (by omega) (by omega) (by omega) (by rw [c1]; rfl) (by decide) ?_
    refine fV_iload_n (pc' := 33) G 1 dX3_isAllowed_32 rfl rfl rfl ?_
    refine fV_iconst (pc' := 34) G dX3_isAllowed_33 rfl ?_
    refine fV_sipush (n := 2000) (pc' := 37) G dX3_isAllowed_34 rfl rfl ?_
    refine fV_callSf (st' := [.int (i32 (fB (sBetw v 0 2000)))]) (n := 3) (As := [.int (i32 v), .int (i32 0), .int (i32 2000)]) (rest := []) (pc' := 40) G (mX3_isBetween l Γ hN I P v 0 2000 (by omega) (by omega) (by omega)) kcX3_isAllowed_34 rfl rfl (by decide) (Nat.zero_le _) (Nat.zero_le _) dX3_isAllowed_37 rfl rfl ?_
    refine fV_zret G dX3_isAllowed_40 ?_
    exact fE_b (by unfold sAllowed; (try unfold sBetw); simp [*]; try omega)
  by_cases c2 : what = 1
  · refine fV_tableIn (off := 40) (tgt := 41) G dX3_isAllowed_1 (by omega) (by omega) (by omega) (by rw [c2]; rfl) (by decide) ?_
    refine fV_iload_n (pc' := 42) G 1 dX3_isAllowed_41 rfl rfl rfl ?_
    refine fV_iconst (pc' := 43) G dX3_isAllowed_42 rfl ?_
    refine fV_bipush (n := 60) (pc' := 45) G dX3_isAllowed_43 rfl rfl ?_
    refine fV_callSf (st' := [.int (i32 (fB (sBetw v 1 60)))]) (n := 3) (As := [.int (i32 v), .int (i32 1), .int (i32 60)]) (rest := []) (pc' := 48) G (mX3_isBetween l Γ hN I P v 1 60 (by omega) (by omega) (by omega)) kcX3_isAllowed_34 rfl rfl (by decide) (Nat.zero_le _) (Nat.zero_le _) dX3_isAllowed_45 rfl rfl ?_
    refine fV_zret G dX3_isAllowed_48 ?_
    exact fE_b (by unfold sAllowed; (try unfold sBetw); simp [*]; try omega)
  by_cases c3 : what = 2
  · refine fV_tableIn (off := 48) (tgt := 49) G dX3_isAllowed_1 (by omega) (by omega) (by omega) (by rw [c3]; rfl) (by decide) ?_
    refine fV_iload_n (pc' := 50) G 1 dX3_isAllowed_49 rfl rfl rfl ?_
    refine fV_iconst (pc' := 51) G dX3_isAllowed_50 rfl ?_
    refine fV_bipush (n := 60) (pc' := 53) G dX3_isAllowed_51 rfl rfl ?_
    refine fV_callSf (st' := [.int (i32 (fB (sBetw v 0 60)))]) (n := 3) (As := [.int (i32 v), .int (i32 0), .int (i32 60)]) (rest := []) (pc' := 56) G (mX3_isBetween l Γ hN I P v 0 60 (by omega) (by omega) (by omega)) kcX3_isAllowed_34 rfl rfl (by decide) (Nat.zero_le _) (Nat.zero_le _) dX3_isAllowed_53 rfl rfl ?_
    refine fV_zret G dX3_isAllowed_56 ?_
    exact fE_b (by unfold sAllowed; (try unfold sBetw); simp [*]; try omega)
  by_cases c4 : what = 3
  · refine fV_tableIn (off := 56) (tgt := 57) G dX3_isAllowed_1 (by omega) (by omega) (by omega) (by rw [c4]; rfl) (by decide) ?_
    refine fV_iload_n (pc' := 58) G 1 dX3_isAllowed_57 rfl rfl rfl ?_
    refine fV_iconst (pc' := 59) G dX3_isAllowed_58 rfl ?_
    refine fV_iconst (pc' := 60) G dX3_isAllowed_59 rfl ?_
    refine fV_callSf (st' := [.int (i32 (fB (sBetw v 0 4)))]) (n := 3) (As := [.int (i32 v), .int (i32 0), .int (i32 4)]) (rest := []) (pc' := 63) G (mX3_isBetween l Γ hN I P v 0 4 (by omega) (by omega) (by omega)) kcX3_isAllowed_34 rfl rfl (by decide) (Nat.zero_le _) (Nat.zero_le _) dX3_isAllowed_60 rfl rfl ?_
    refine fV_zret G dX3_isAllowed_63 ?_
    exact fE_b (by unfold sAllowed; (try unfold sBetw); simp [*]; try omega)
  refine fV_tableOut (tgt := 64) G dX3_isAllowed_1 (by omega) (by omega) (by decide) ?_
  refine fV_iconst (pc' := 65) G dX3_isAllowed_64 rfl ?_
  refine fV_zret (b := false) G dX3_isAllowed_65 ?_
  exact fE_b (by unfold sAllowed; (try unfold sBetw); simp [*]; try omega)
set_option maxHeartbeats 4000000 in
set_option maxRecDepth 100000 in
theorem mX2_leavesIn (l : Launch) (Γ : fG) {N : Nat} (hN : 214 ≤ N) (I : fM) (P : fN) {k : Nat} (hk : fWd k) : fMet l yX2_leavesIn wsX2_leavesIn rmX2_leavesIn Γ N [.ref (Γ.1 k)] I P (fE (some (.int (i32 (I k 2 + I k 3 + I k 4)))) I P) := by
  refine fMet_of (own := RX2) (cc := cX2_leavesIn) (maxL := 1) (ret := (some .int)) rfl (by decide +kernel) rfl (Nat.le_of_ble_eq_true rfl) ?_
  intro p e s m args below meth c G
  obtain ⟨hk0, -, -⟩ := id hk
  refine fV_lv (lv' := [(0, .ref (Γ.1 k))]) [0] rfl ?_
  refine fV_aload_n (pc' := 1) G 0 dX2_leavesIn_0 rfl rfl rfl ?_
  refine fV_get (K := 2) (v := .int (i32 (I k 2))) (pc' := 4) G kfX2_leavesIn_25 (by omega) hk.2.1 rfl rfl dX2_leavesIn_1 rfl ?_
  refine fV_aload_n (pc' := 5) G 0 dX2_leavesIn_4 rfl rfl rfl ?_
  refine fV_get (K := 2) (v := .int (i32 (I k 3))) (pc' := 8) G kfX2_leavesIn_28 (by omega) hk.2.1 rfl rfl dX2_leavesIn_5 rfl ?_
  refine fV_iadd (pc' := 9) G dX2_leavesIn_8 rfl ?_
  refine fV_aload_n (pc' := 10) G 0 dX2_leavesIn_9 rfl rfl rfl ?_
  refine fV_get (K := 2) (v := .int (i32 (I k 4))) (pc' := 13) G kfX2_leavesIn_31 (by omega) hk.2.1 rfl rfl dX2_leavesIn_10 rfl ?_
  refine fV_iadd (pc' := 14) G dX2_leavesIn_13 rfl ?_
  refine fV_iret G dX2_leavesIn_14 ?_
  exact fE_i (by rfl)
set_option maxHeartbeats 4000000 in
set_option maxRecDepth 100000 in
theorem mX2_stepsIn (l : Launch) (Γ : fG) {N : Nat} (hN : 214 ≤ N) (I : fM) (P : fN) {k : Nat} (hk : fWd k) (f : Int) : fMet l yX2_stepsIn wsX2_stepsIn rmX2_stepsIn Γ N [.ref (Γ.1 k), .int (i32 f)] I P (fE (some (.int (i32 (f + 1 - (I k 2 + I k 3 + I k 4))))) I P) := by
  refine fMet_of (own := RX2) (cc := cX2_stepsIn) (maxL := 2) (ret := (some .int)) rfl (by decide +kernel) rfl (Nat.le_of_ble_eq_true rfl) ?_
  intro p e s m args below meth c G
  obtain ⟨hk0, -, -⟩ := id hk
  refine fV_lv (lv' := [(0, .ref (Γ.1 k)), (1, .int (i32 f))]) [0, 1] rfl ?_
  refine fV_iload_n (pc' := 1) G 1 dX2_stepsIn_0 rfl rfl rfl ?_
  refine fV_iconst (pc' := 2) G dX2_stepsIn_1 rfl ?_
  refine fV_iadd (pc' := 3) G dX2_stepsIn_2 rfl ?_
  refine fV_aload_n (pc' := 4) G 0 dX2_stepsIn_3 rfl rfl rfl ?_
  refine fV_get (K := 2) (v := .int (i32 (I k 2))) (pc' := 7) G kfX2_stepsIn_25 (by omega) hk.2.1 rfl rfl dX2_stepsIn_4 rfl ?_
  refine fV_aload_n (pc' := 8) G 0 dX2_stepsIn_7 rfl rfl rfl ?_
  refine fV_get (K := 2) (v := .int (i32 (I k 3))) (pc' := 11) G kfX2_stepsIn_28 (by omega) hk.2.1 rfl rfl dX2_stepsIn_8 rfl ?_
  refine fV_iadd (pc' := 12) G dX2_stepsIn_11 rfl ?_
  refine fV_aload_n (pc' := 13) G 0 dX2_stepsIn_12 rfl rfl rfl ?_
  refine fV_get (K := 2) (v := .int (i32 (I k 4))) (pc' := 16) G kfX2_stepsIn_31 (by omega) hk.2.1 rfl rfl dX2_stepsIn_13 rfl ?_
  refine fV_iadd (pc' := 17) G dX2_stepsIn_16 rfl ?_
  refine fV_isub (pc' := 18) G dX2_stepsIn_17 rfl ?_
  refine fV_iret G dX2_stepsIn_18 ?_
  exact fE_i (by rfl)
set_option maxHeartbeats 4000000 in
set_option maxRecDepth 100000 in
theorem mX2_keepsLane (l : Launch) (Γ : fG) {N : Nat} (hN : 214 ≤ N) (I : fM) (P : fN) {k : Nat} (hk : fWd k) (hv : 0 ≤ I k 5 ∧ I k 5 ≤ 4) : fMet l yX2_keepsLane wsX2_keepsLane rmX2_keepsLane Γ N [.ref (Γ.1 k)] I P (fE (some (.int (i32 (fB (decide (I k 5 ≠ 3 ∧ I k 5 ≠ 4)))))) I P) := by
  refine fMet_of (own := RX2) (cc := cX2_keepsLane) (maxL := 1) (ret := (some .boolean)) rfl (by decide +kernel) rfl (Nat.le_of_ble_eq_true rfl) ?_
  intro p e s m args below meth c G
  obtain ⟨hk0, -, -⟩ := id hk
  refine fV_lv (lv' := [(0, .ref (Γ.1 k))]) [0] rfl ?_
  refine fV_aload_n (pc' := 1) G 0 dX2_keepsLane_0 rfl rfl rfl ?_
  refine fV_get (K := 2) (v := .int (i32 (I k 5))) (pc' := 4) G kfX2_keepsLane_34 (by omega) hk.2.1 rfl rfl dX2_keepsLane_1 rfl ?_
  refine fV_iconst (pc' := 5) G dX2_keepsLane_4 rfl ?_
  refine fV_icmp_eq (tgt := 20) (pc' := 8) G dX2_keepsLane_5 (by decide) rfl (by omega) (by omega) (fun c1 => ?_) (fun c1 => ?_)
  · refine fV_iconst (pc' := 21) G dX2_keepsLane_20 rfl ?_
    refine fV_zret (b := false) G dX2_keepsLane_21 ?_
    exact fE_b (by simp; omega)
  · refine fV_aload_n (pc' := 9) G 0 dX2_keepsLane_8 rfl rfl rfl ?_
    refine fV_get (K := 2) (v := .int (i32 (I k 5))) (pc' := 12) G kfX2_keepsLane_34 (by omega) hk.2.1 rfl rfl dX2_keepsLane_9 rfl ?_
    refine fV_iconst (pc' := 13) G dX2_keepsLane_12 rfl ?_
    refine fV_icmp_eq (tgt := 20) (pc' := 16) G dX2_keepsLane_13 (by decide) rfl (by omega) (by omega) (fun c2 => ?_) (fun c2 => ?_)
    · refine fV_iconst (pc' := 21) G dX2_keepsLane_20 rfl ?_
      refine fV_zret (b := false) G dX2_keepsLane_21 ?_
      exact fE_b (by simp; omega)
    · refine fV_iconst (pc' := 17) G dX2_keepsLane_16 rfl ?_
      refine fV_goto (tgt := 21) G dX2_keepsLane_17 (by decide) ?_
      refine fV_zret (b := true) G dX2_keepsLane_21 ?_
      exact fE_b (by simp; omega)
set_option maxHeartbeats 4000000 in
set_option maxRecDepth 100000 in
theorem mX2_lastColumn (l : Launch) (Γ : fG) {N : Nat} (hN : 214 ≤ N) (I : fM) (P : fN) {k : Nat} (hk : fWd k) : fMet l yX2_lastColumn wsX2_lastColumn rmX2_lastColumn Γ N [.ref (Γ.1 k)] I P (fE (some (.int (i32 (40 - I k 1)))) I P) := by
  refine fMet_of (own := RX2) (cc := cX2_lastColumn) (maxL := 1) (ret := (some .int)) rfl (by decide +kernel) rfl (Nat.le_of_ble_eq_true rfl) ?_
  intro p e s m args below meth c G
  obtain ⟨hk0, -, -⟩ := id hk
  refine fV_lv (lv' := [(0, .ref (Γ.1 k))]) [0] rfl ?_
  refine fV_bipush (n := 40) (pc' := 2) G dX2_lastColumn_0 rfl rfl ?_
  refine fV_aload_n (pc' := 3) G 0 dX2_lastColumn_2 rfl rfl rfl ?_
  refine fV_get (K := 2) (v := .int (i32 (I k 1))) (pc' := 6) G kfX2_lastColumn_21 (by omega) hk.2.1 rfl rfl dX2_lastColumn_3 rfl ?_
  refine fV_isub (pc' := 7) G dX2_lastColumn_6 rfl ?_
  refine fV_iret G dX2_lastColumn_7 ?_
  exact fE_i (by rfl)
set_option maxHeartbeats 4000000 in
set_option maxRecDepth 100000 in
theorem mX2_cellsToLeave (l : Launch) (Γ : fG) {N : Nat} (hN : 214 ≤ N) (I : fM) (P : fN) {k : Nat} (hk : fWd k) (hv : 0 ≤ I k 5 ∧ I k 5 ≤ 4) : fMet l yX2_cellsToLeave wsX2_cellsToLeave rmX2_cellsToLeave Γ N [.ref (Γ.1 k)] I P (fE (some (.int (i32 (sLeave I k)))) I P) := by
  refine fMet_of (own := RX2) (cc := cX2_cellsToLeave) (maxL := 1) (ret := (some .int)) rfl (by decide +kernel) rfl (Nat.le_of_ble_eq_true rfl) ?_
  intro p e s m args below meth c G
  obtain ⟨hk0, -, -⟩ := id hk
  refine fV_lv (lv' := [(0, .ref (Γ.1 k))]) [0] rfl ?_
  refine fV_aload_n (pc' := 1) G 0 dX2_cellsToLeave_0 rfl rfl rfl ?_
  refine fV_get (K := 2) (v := .int (i32 (I k 5))) (pc' := 4) G kfX2_cellsToLeave_34 (by omega) hk.2.1 rfl rfl dX2_cellsToLeave_1 rfl ?_
  by_cases c1 : I k 5 = 1
  · refine fV_tableIn (off := 28) (tgt := 32) G dX2_cellsToLeave_4 (by omega) (by omega) (by omega) (by rw [c1]; rfl) (by decide) ?_
    refine fV_aload_n (pc' := 33) G 0 dX2_cellsToLeave_32 rfl rfl rfl ?_
    refine fV_get (K := 2) (v := .int (i32 (I k 8))) (pc' := 36) G kfX2_cellsToLeave_44 (by omega) hk.2.1 rfl rfl dX2_cellsToLeave_33 rfl ?_
    refine fV_aload_n (pc' := 37) G 0 dX2_cellsToLeave_36 rfl rfl rfl ?_
    refine fV_get (K := 2) (v := .int (i32 (I k 1))) (pc' := 40) G kfX2_cellsToLeave_21 (by omega) hk.2.1 rfl rfl dX2_cellsToLeave_37 rfl ?_
    refine fV_iadd (pc' := 41) G dX2_cellsToLeave_40 rfl ?_
    refine fV_iret G dX2_cellsToLeave_41 ?_
    exact fE_i (by unfold sLeave; simp [*])
  by_cases c2 : I k 5 = 2
  · refine fV_tableIn (off := 38) (tgt := 42) G dX2_cellsToLeave_4 (by omega) (by omega) (by omega) (by rw [c2]; rfl) (by decide) ?_
    refine fV_bipush (n := 40) (pc' := 44) G dX2_cellsToLeave_42 rfl rfl ?_
    refine fV_aload_n (pc' := 45) G 0 dX2_cellsToLeave_44 rfl rfl rfl ?_
    refine fV_get (K := 2) (v := .int (i32 (I k 8))) (pc' := 48) G kfX2_cellsToLeave_44 (by omega) hk.2.1 rfl rfl dX2_cellsToLeave_45 rfl ?_
    refine fV_isub (pc' := 49) G dX2_cellsToLeave_48 rfl ?_
    refine fV_iret G dX2_cellsToLeave_49 ?_
    exact fE_i (by unfold sLeave; simp [*])
  by_cases c3 : I k 5 = 3
  · refine fV_tableIn (off := 46) (tgt := 50) G dX2_cellsToLeave_4 (by omega) (by omega) (by omega) (by rw [c3]; rfl) (by decide) ?_
    refine fV_aload_n (pc' := 51) G 0 dX2_cellsToLeave_50 rfl rfl rfl ?_
    refine fV_get (K := 2) (v := .int (i32 (I k 7))) (pc' := 54) G kfX2_cellsToLeave_41 (by omega) hk.2.1 rfl rfl dX2_cellsToLeave_51 rfl ?_
    refine fV_iconst (pc' := 55) G dX2_cellsToLeave_54 rfl ?_
    refine fV_iadd (pc' := 56) G dX2_cellsToLeave_55 rfl ?_
    refine fV_iret G dX2_cellsToLeave_56 ?_
    exact fE_i (by unfold sLeave; simp [*])
  refine fV_tableOut (tgt := 57) G dX2_cellsToLeave_4 (by omega) (by omega) (by decide) ?_
  refine fV_bipush (n := 8) (pc' := 59) G dX2_cellsToLeave_57 rfl rfl ?_
  refine fV_aload_n (pc' := 60) G 0 dX2_cellsToLeave_59 rfl rfl rfl ?_
  refine fV_get (K := 2) (v := .int (i32 (I k 7))) (pc' := 63) G kfX2_cellsToLeave_41 (by omega) hk.2.1 rfl rfl dX2_cellsToLeave_60 rfl ?_
  refine fV_isub (pc' := 64) G dX2_cellsToLeave_63 rfl ?_
  refine fV_iret G dX2_cellsToLeave_64 ?_
  exact fE_i (by unfold sLeave; simp [*])
set_option maxHeartbeats 4000000 in
set_option maxRecDepth 100000 in
theorem mX2_property (l : Launch) (Γ : fG) {N : Nat} (hN : 214 ≤ N) (I : fM) (P : fN) {k : Nat} (hk : fWd k) (what : Int) (hw : 0 ≤ what ∧ what ≤ 3) : fMet l yX2_property wsX2_property rmX2_property Γ N [.ref (Γ.1 k), .int (i32 what)] I P (fE (some (.int (i32 (I k (what + 2))))) I P) := by
  refine fMet_of (own := RX2) (cc := cX2_property) (maxL := 2) (ret := (some .int)) rfl (by decide +kernel) rfl (Nat.le_of_ble_eq_true rfl) ?_
  intro p e s m args below meth c G
  obtain ⟨hk0, -, -⟩ := id hk
  refine fV_lv (lv' := [(0, .ref (Γ.1 k)), (1, .int (i32 what))]) [0, 1] rfl ?_
  refine fV_iload_n (pc' := 1) G 1 dX2_property_0 rfl rfl rfl ?_
  by_cases c1 : what = 0
  · refine fV_tableIn (off := 27) (tgt := 28) G dX2_property_1 (by omega) (by omega) (by omega) (by rw [c1]; rfl) (by decide) ?_
    refine fV_aload_n (pc' := 29) G 0 dX2_property_28 rfl rfl rfl ?_
    refine fV_get (K := 2) (v := .int (i32 (I k 2))) (pc' := 32) G kfX2_property_25 (by omega) hk.2.1 rfl rfl dX2_property_29 rfl ?_
    refine fV_iret G dX2_property_32 ?_
    exact fE_i (by first | (subst_vars; rfl) | (rw [show what = 3 by omega]; rfl))
  by_cases c2 : what = 1
  · refine fV_tableIn (off := 32) (tgt := 33) G dX2_property_1 (by omega) (by omega) (by omega) (by rw [c2]; rfl) (by decide) ?_
    refine fV_aload_n (pc' := 34) G 0 dX2_property_33 rfl rfl rfl ?_
    refine fV_get (K := 2) (v := .int (i32 (I k 3))) (pc' := 37) G kfX2_property_28 (by omega) hk.2.1 rfl rfl dX2_property_34 rfl ?_
    refine fV_iret G dX2_property_37 ?_
    exact fE_i (by first | (subst_vars; rfl) | (rw [show what = 3 by omega]; rfl))
  by_cases c3 : what = 2
  · refine fV_tableIn (off := 37) (tgt := 38) G dX2_property_1 (by omega) (by omega) (by omega) (by rw [c3]; rfl) (by decide) ?_
    refine fV_aload_n (pc' := 39) G 0 dX2_property_38 rfl rfl rfl ?_
    refine fV_get (K := 2) (v := .int (i32 (I k 4))) (pc' := 42) G kfX2_property_31 (by omega) hk.2.1 rfl rfl dX2_property_39 rfl ?_
    refine fV_iret G dX2_property_42 ?_
    exact fE_i (by first | (subst_vars; rfl) | (rw [show what = 3 by omega]; rfl))
  refine fV_tableOut (tgt := 43) G dX2_property_1 (by omega) (by omega) (by decide) ?_
  refine fV_aload_n (pc' := 44) G 0 dX2_property_43 rfl rfl rfl ?_
  refine fV_get (K := 2) (v := .int (i32 (I k 5))) (pc' := 47) G kfX2_property_34 (by omega) hk.2.1 rfl rfl dX2_property_44 rfl ?_
  refine fV_iret G dX2_property_47 ?_
  exact fE_i (by first | (subst_vars; rfl) | (rw [show what = 3 by omega]; rfl))
set_option maxHeartbeats 4000000 in
set_option maxRecDepth 100000 in
theorem mX2_setProperty (l : Launch) (Γ : fG) {N : Nat} (hN : 214 ≤ N) (I : fM) (P : fN) {k : Nat} (hk : fWd k) (what v : Int) (hw : 0 ≤ what ∧ what ≤ 3) : fMet l yX2_setProperty wsX2_setProperty rmX2_setProperty Γ N [.ref (Γ.1 k), .int (i32 what), .int (i32 v)] I P (fE none (fup I k (what + 2) v) P) := by
  refine fMet_of (own := RX2) (cc := cX2_setProperty) (maxL := 3) (ret := none) rfl (by decide +kernel) rfl (Nat.le_of_ble_eq_true rfl) ?_
  intro p e s m args below meth c G
  obtain ⟨hk0, -, -⟩ := id hk
  refine fV_lv (lv' := [(0, .ref (Γ.1 k)), (1, .int (i32 what)), (2, .int (i32 v))]) [0, 1, 2] rfl ?_
  refine fV_iload_n (pc' := 1) G 1 dX2_setProperty_0 rfl rfl rfl ?_
  by_cases c1 : what = 0
  · refine fV_tableIn (off := 27) (tgt := 28) G dX2_setProperty_1 (by omega) (by omega) (by omega) (by rw [c1]; rfl) (by decide) ?_
    refine fV_aload_n (pc' := 29) G 0 dX2_setProperty_28 rfl rfl rfl ?_
    refine fV_iload_n (pc' := 30) G 2 dX2_setProperty_29 rfl rfl rfl ?_
    refine fV_put (K := 2) (jj := 2) (x := v) (v := .int (i32 v)) (ty := .int) (pc' := 33) G kfX2_setProperty_25 (by omega) hk.2.1 rfl rfl kp2_2 rfl rfl (Nat.le_of_ble_eq_true rfl) dX2_setProperty_30 rfl (fun I2 eI2 => ?_)
    refine fV_goto (tgt := 57) G dX2_setProperty_33 (by decide) ?_
    refine fV_vret G dX2_setProperty_57 ?_
    exact fE_vm (by first | (subst_vars; rfl) | (rw [eI2, show what = 3 by omega]; rfl)) rfl
  by_cases c2 : what = 1
  · refine fV_tableIn (off := 35) (tgt := 36) G dX2_setProperty_1 (by omega) (by omega) (by omega) (by rw [c2]; rfl) (by decide) ?_
    refine fV_aload_n (pc' := 37) G 0 dX2_setProperty_36 rfl rfl rfl ?_
    refine fV_iload_n (pc' := 38) G 2 dX2_setProperty_37 rfl rfl rfl ?_
    refine fV_put (K := 2) (jj := 3) (x := v) (v := .int (i32 v)) (ty := .int) (pc' := 41) G kfX2_setProperty_28 (by omega) hk.2.1 rfl rfl kp2_3 rfl rfl (Nat.le_of_ble_eq_true rfl) dX2_setProperty_38 rfl (fun I3 eI3 => ?_)
    refine fV_goto (tgt := 57) G dX2_setProperty_41 (by decide) ?_
    refine fV_vret G dX2_setProperty_57 ?_
    exact fE_vm (by first | (subst_vars; rfl) | (rw [eI3, show what = 3 by omega]; rfl)) rfl
  by_cases c3 : what = 2
  · refine fV_tableIn (off := 43) (tgt := 44) G dX2_setProperty_1 (by omega) (by omega) (by omega) (by rw [c3]; rfl) (by decide) ?_
    refine fV_aload_n (pc' := 45) G 0 dX2_setProperty_44 rfl rfl rfl ?_
    refine fV_iload_n (pc' := 46) G 2 dX2_setProperty_45 rfl rfl rfl ?_
    refine fV_put (K := 2) (jj := 4) (x := v) (v := .int (i32 v)) (ty := .int) (pc' := 49) G kfX2_setProperty_31 (by omega) hk.2.1 rfl rfl kp2_4 rfl rfl (Nat.le_of_ble_eq_true rfl) dX2_setProperty_46 rfl (fun I4 eI4 => ?_)
    refine fV_goto (tgt := 57) G dX2_setProperty_49 (by decide) ?_
    refine fV_vret G dX2_setProperty_57 ?_
    exact fE_vm (by first | (subst_vars; rfl) | (rw [eI4, show what = 3 by omega]; rfl)) rfl
  refine fV_tableOut (tgt := 52) G dX2_setProperty_1 (by omega) (by omega) (by decide) ?_
  refine fV_aload_n (pc' := 53) G 0 dX2_setProperty_52 rfl rfl rfl ?_
  refine fV_iload_n (pc' := 54) G 2 dX2_setProperty_53 rfl rfl rfl ?_
  refine fV_put (K := 2) (jj := 5) (x := v) (v := .int (i32 v)) (ty := .int) (pc' := 57) G kfX2_setProperty_34 (by omega) hk.2.1 rfl rfl kp2_5 rfl rfl (Nat.le_of_ble_eq_true rfl) dX2_setProperty_54 rfl (fun I4 eI4 => ?_)
  refine fV_vret G dX2_setProperty_57 ?_
  exact fE_vm (by first | (subst_vars; rfl) | (rw [eI4, show what = 3 by omega]; rfl)) rfl
set_option maxHeartbeats 4000000 in
set_option maxRecDepth 100000 in
theorem mX2_putAt (l : Launch) (Γ : fG) {N : Nat} (hN : 214 ≤ N) (I : fM) (P : fN) {k : Nat} (hk : fWd k) (la co : Int) : fMet l yX2_putAt wsX2_putAt rmX2_putAt Γ N [.ref (Γ.1 k), .int (i32 la), .int (i32 co)] I P (fE none (fup (fup (fup I k 6 1) k 7 la) k 8 co) P) := by
  refine fMet_of (own := RX2) (cc := cX2_putAt) (maxL := 3) (ret := none) rfl (by decide +kernel) rfl (Nat.le_of_ble_eq_true rfl) ?_
  intro p e s m args below meth c G
  obtain ⟨hk0, -, -⟩ := id hk
  refine fV_lv (lv' := [(0, .ref (Γ.1 k)), (1, .int (i32 la)), (2, .int (i32 co))]) [0, 1, 2] rfl ?_
  refine fV_aload_n (pc' := 1) G 0 dX2_putAt_0 rfl rfl rfl ?_
  refine fV_iconst (pc' := 2) G dX2_putAt_1 rfl ?_
  refine fV_put (K := 2) (jj := 6) (x := 1) (v := .int (i32 1)) (ty := .boolean) (pc' := 5) G kfX2_putAt_37 (by omega) hk.2.1 rfl rfl kp2_6 rfl rfl (Nat.le_of_ble_eq_true rfl) dX2_putAt_2 rfl (fun I1 eI1 => ?_)
  refine fV_aload_n (pc' := 6) G 0 dX2_putAt_5 rfl rfl rfl ?_
  refine fV_iload_n (pc' := 7) G 1 dX2_putAt_6 rfl rfl rfl ?_
  refine fV_put (K := 2) (jj := 7) (x := la) (v := .int (i32 la)) (ty := .int) (pc' := 10) G kfX2_putAt_41 (by omega) hk.2.1 rfl rfl kp2_7 rfl rfl (Nat.le_of_ble_eq_true rfl) dX2_putAt_7 rfl (fun I2 eI2 => ?_)
  refine fV_aload_n (pc' := 11) G 0 dX2_putAt_10 rfl rfl rfl ?_
  refine fV_iload_n (pc' := 12) G 2 dX2_putAt_11 rfl rfl rfl ?_
  refine fV_put (K := 2) (jj := 8) (x := co) (v := .int (i32 co)) (ty := .int) (pc' := 15) G kfX2_putAt_44 (by omega) hk.2.1 rfl rfl kp2_8 rfl rfl (Nat.le_of_ble_eq_true rfl) dX2_putAt_12 rfl (fun I3 eI3 => ?_)
  refine fV_vret G dX2_putAt_15 ?_
  exact fE_vm (by subst_vars; rfl) rfl
