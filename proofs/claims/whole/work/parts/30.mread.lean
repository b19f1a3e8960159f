/-! CONTRACTS 3: the reference's reads (rows laid by wip/whole/gen/con3.py) -/
set_option maxHeartbeats 4000000 in
set_option maxRecDepth 100000 in
theorem mX4_in (l : Launch) (Γ : fG) {N : Nat} (hN : 220 ≤ N) (I : fM) (P : fN) (v lo hi : Int) (h_v : -9223372036854775808 ≤ v ∧ v ≤ 9223372036854775807) (h_lo : -9223372036854775808 ≤ lo ∧ lo ≤ 9223372036854775807) (h_hi : -9223372036854775808 ≤ hi ∧ hi ≤ 9223372036854775807) : fMet l yX4_in wsX4_in rmX4_in Γ N [.long (i64 v), .long (i64 lo), .long (i64 hi)] I P (fE (some (.int (i32 (fB (sBetw v lo hi))))) I P) := by
  refine fMet_of (own := RX4) (cc := cX4_in) (maxL := 6) (ret := (some .boolean)) rfl (by decide +kernel) rfl (Nat.le_of_ble_eq_true rfl) ?_
  intro p e s m args below meth c G
  refine fV_lv (lv' := [(0, .long (i64 v)), (2, .long (i64 lo)), (4, .long (i64 hi))]) [0, 1, 2] rfl ?_
  refine fV_lload_n (pc' := 1) G 0 dX4_in_0 rfl rfl rfl ?_
  refine fV_lload_n (pc' := 2) G 1 dX4_in_1 rfl rfl rfl ?_
  refine fV_lcmp (pc' := 3) G dX4_in_2 rfl (by omega) (by omega) ?_
  refine fV_if_lt (tgt := 17) (pc' := 6) G dX4_in_3 (by decide) rfl (by unfold fcm; (split <;> first | omega | (split <;> omega))) (fun c1 => ?_) (fun c1 => ?_)
  · refine fV_iconst (pc' := 18) G dX4_in_17 rfl ?_
    refine fV_zret (b := false) G dX4_in_18 ?_
    exact fE_b (by unfold sBetw; simp; unfold fcm at *; repeat (split at * <;> try omega))
  · refine fV_lload_n (pc' := 7) G 0 dX4_in_6 rfl rfl rfl ?_
    refine fV_lload (pc' := 9) G 2 dX4_in_7 rfl rfl ?_
    refine fV_lcmp (pc' := 10) G dX4_in_9 rfl (by omega) (by omega) ?_
    refine fV_if_gt (tgt := 17) (pc' := 13) G dX4_in_10 (by decide) rfl (by unfold fcm; (split <;> first | omega | (split <;> omega))) (fun c2 => ?_) (fun c2 => ?_)
    · refine fV_iconst (pc' := 18) G dX4_in_17 rfl ?_
      refine fV_zret (b := false) G dX4_in_18 ?_
      exact fE_b (by unfold sBetw; simp; unfold fcm at *; repeat (split at * <;> try omega))
    · refine fV_iconst (pc' := 14) G dX4_in_13 rfl ?_
      refine fV_goto (tgt := 18) G dX4_in_14 (by decide) ?_
      refine fV_zret (b := true) G dX4_in_18 ?_
      exact fE_b (by unfold sBetw; simp; unfold fcm at *; repeat (split at * <;> try omega))
set_option maxHeartbeats 4000000 in
set_option maxRecDepth 100000 in
theorem mX4_less (l : Launch) (Γ : fG) {N : Nat} (hN : 220 ≤ N) (I : fM) (P : fN) (a b : Int) (h_a : -2147483648 ≤ a ∧ a ≤ 2147483647) (h_b : -2147483648 ≤ b ∧ b ≤ 2147483647) : fMet l yX4_less wsX4_less rmX4_less Γ N [.int (i32 a), .int (i32 b)] I P (fE (some (.int (i32 (min a b)))) I P) := by
  refine fMet_of (own := RX4) (cc := cX4_less) (maxL := 2) (ret := (some .int)) rfl (by decide +kernel) rfl (Nat.le_of_ble_eq_true rfl) ?_
  intro p e s m args below meth c G
  refine fV_lv (lv' := [(0, .int (i32 a)), (1, .int (i32 b))]) [0, 1] rfl ?_
  refine fV_iload_n (pc' := 1) G 0 dX4_less_0 rfl rfl rfl ?_
  refine fV_iload_n (pc' := 2) G 1 dX4_less_1 rfl rfl rfl ?_
  refine fV_icmp_ge (tgt := 9) (pc' := 5) G dX4_less_2 (by decide) rfl (by omega) (by omega) (fun c1 => ?_) (fun c1 => ?_)
  · refine fV_iload_n (pc' := 10) G 1 dX4_less_9 rfl rfl rfl ?_
    refine fV_iret G dX4_less_10 ?_
    exact fE_i (by omega)
  · refine fV_iload_n (pc' := 6) G 0 dX4_less_5 rfl rfl rfl ?_
    refine fV_goto (tgt := 10) G dX4_less_6 (by decide) ?_
    refine fV_iret G dX4_less_10 ?_
    exact fE_i (by omega)
set_option maxHeartbeats 4000000 in
set_option maxRecDepth 100000 in
theorem mX4_more (l : Launch) (Γ : fG) {N : Nat} (hN : 220 ≤ N) (I : fM) (P : fN) (a b : Int) (h_a : -2147483648 ≤ a ∧ a ≤ 2147483647) (h_b : -2147483648 ≤ b ∧ b ≤ 2147483647) : fMet l yX4_more wsX4_more rmX4_more Γ N [.int (i32 a), .int (i32 b)] I P (fE (some (.int (i32 (max a b)))) I P) := by
  refine fMet_of (own := RX4) (cc := cX4_more) (maxL := 2) (ret := (some .int)) rfl (by decide +kernel) rfl (Nat.le_of_ble_eq_true rfl) ?_
  intro p e s m args below meth c G
  refine fV_lv (lv' := [(0, .int (i32 a)), (1, .int (i32 b))]) [0, 1] rfl ?_
  refine fV_iload_n (pc' := 1) G 0 dX4_more_0 rfl rfl rfl ?_
  refine fV_iload_n (pc' := 2) G 1 dX4_more_1 rfl rfl rfl ?_
  refine fV_icmp_le (tgt := 9) (pc' := 5) G dX4_more_2 (by decide) rfl (by omega) (by omega) (fun c1 => ?_) (fun c1 => ?_)
  · refine fV_iload_n (pc' := 10) G 1 dX4_more_9 rfl rfl rfl ?_
    refine fV_iret G dX4_more_10 ?_
    exact fE_i (by omega)
  · refine fV_iload_n (pc' := 6) G 0 dX4_more_5 rfl rfl rfl ?_
    refine fV_goto (tgt := 10) G dX4_more_6 (by decide) ?_
    refine fV_iret G dX4_more_10 ?_
    exact fE_i (by omega)
set_option maxHeartbeats 4000000 in
set_option maxRecDepth 100000 in
theorem mX4_isWord (l : Launch) (Γ : fG) {N : Nat} (hN : 220 ≤ N) (I : fM) (P : fN) (hc : 0 ≤ I 215 0 ∧ I 215 0 ≤ 12) (w : Int) (h_w : -2147483648 ≤ w ∧ w ≤ 2147483647) : fMet l yX4_isWord wsX4_isWord rmX4_isWord Γ N [.ref (Γ.1 214), .int (i32 w)] I P (fE (some (.int (i32 (fB (decide (0 ≤ w ∧ w < I 215 0)))))) I P) := by
  refine fMet_of (own := RX4) (cc := cX4_isWord) (maxL := 2) (ret := (some .boolean)) rfl (by decide +kernel) rfl (Nat.le_of_ble_eq_true rfl) ?_
  intro p e s m args below meth c G
  refine fV_lv (lv' := [(0, .ref (Γ.1 214)), (1, .int (i32 w))]) [0, 1] rfl ?_
  refine fV_iload_n (pc' := 1) G 1 dX4_isWord_0 rfl rfl rfl ?_
  refine fV_i2l (pc' := 2) G dX4_isWord_1 rfl (by omega) ?_
  refine fV_lconst (v := 0) (pc' := 3) G dX4_isWord_2 rfl rfl ?_
  refine fV_aload_n (pc' := 4) G 0 dX4_isWord_3 rfl rfl rfl ?_
  refine fV_get (K := 4) (v := .ref (Γ.1 215)) (pc' := 7) G kfX4_isWord_7 (by omega) rfl rfl rfl dX4_isWord_4 rfl ?_
  refine fV_iconst (pc' := 8) G dX4_isWord_7 rfl ?_
  refine fV_iald (K := 8) (n := 241) (pc' := 9) G (by omega) rfl (fun _ _ => rfl) (by decide) (by omega) dX4_isWord_8 rfl ?_
  refine fV_iconst (pc' := 10) G dX4_isWord_9 rfl ?_
  refine fV_isub (pc' := 11) G dX4_isWord_10 rfl ?_
  refine fV_i2l (pc' := 12) G dX4_isWord_11 rfl (by omega) ?_
  refine fV_callSf (st' := [.int (i32 (fB (sBetw w 0 ((I 215 0) - 1))))]) (n := 3) (As := [.long (i64 w), .long (i64 0), .long (i64 ((I 215 0) - 1))]) (rest := []) (pc' := 15) G (mX4_in l Γ hN I P w 0 ((I 215 0) - 1) (by omega) (by omega) (by omega)) kcX4_isWord_33 rfl rfl (Nat.le_of_ble_eq_true rfl) (Nat.zero_le _) (Nat.zero_le _) dX4_isWord_12 rfl rfl ?_
  refine fV_zret G dX4_isWord_15 ?_
  exact fE_b (by exact decide_eq_decide.mpr (by omega))
set_option maxHeartbeats 4000000 in
set_option maxRecDepth 100000 in
theorem mX4_of (l : Launch) (Γ : fG) {N : Nat} (hN : 220 ≤ N) (I : fM) (P : fN) (w : Int) (hw : 0 ≤ w ∧ w < 12) (q : Int) (hq : 0 ≤ q ∧ q < 19) : fMet l yX4_of wsX4_of rmX4_of Γ N [.ref (Γ.1 214), .int (i32 w), .int (i32 q)] I P (fE (some (.int (i32 (I 215 (13 + 19 * w + q))))) I P) := by
  refine fMet_of (own := RX4) (cc := cX4_of) (maxL := 3) (ret := (some .int)) rfl (by decide +kernel) rfl (Nat.le_of_ble_eq_true rfl) ?_
  intro p e s m args below meth c G
  refine fV_lv (lv' := [(0, .ref (Γ.1 214)), (1, .int (i32 w)), (2, .int (i32 q))]) [0, 1, 2] rfl ?_
  refine fV_aload_n (pc' := 1) G 0 dX4_of_0 rfl rfl rfl ?_
  refine fV_get (K := 4) (v := .ref (Γ.1 215)) (pc' := 4) G kfX4_of_7 (by omega) rfl rfl rfl dX4_of_1 rfl ?_
  refine fV_bipush (n := 13) (pc' := 6) G dX4_of_4 rfl rfl ?_
  refine fV_bipush (n := 19) (pc' := 8) G dX4_of_6 rfl rfl ?_
  refine fV_iload_n (pc' := 9) G 1 dX4_of_8 rfl rfl rfl ?_
  refine fV_imul (pc' := 10) G dX4_of_9 rfl ?_
  refine fV_iadd (pc' := 11) G dX4_of_10 rfl ?_
  refine fV_iload_n (pc' := 12) G 2 dX4_of_11 rfl rfl rfl ?_
  refine fV_iadd (pc' := 13) G dX4_of_12 rfl ?_
  refine fV_iald (K := 8) (n := 241) (pc' := 14) G (by omega) rfl (fun _ _ => rfl) (by decide) (by omega) dX4_of_13 rfl ?_
  refine fV_iret G dX4_of_14 ?_
  exact fE_i (by rfl)
set_option maxHeartbeats 4000000 in
set_option maxRecDepth 100000 in
theorem mX4_set (l : Launch) (Γ : fG) {N : Nat} (hN : 220 ≤ N) (I : fM) (P : fN) (w : Int) (hw : 0 ≤ w ∧ w < 12) (q : Int) (hq : 0 ≤ q ∧ q < 19) (v : Int) : fMet l yX4_set wsX4_set rmX4_set Γ N [.ref (Γ.1 214), .int (i32 w), .int (i32 q), .int (i32 v)] I P (fE none (fup I 215 (13 + 19 * w + q) v) P) := by
  refine fMet_of (own := RX4) (cc := cX4_set) (maxL := 4) (ret := none) rfl (by decide +kernel) rfl (Nat.le_of_ble_eq_true rfl) ?_
  intro p e s m args below meth c G
  refine fV_lv (lv' := [(0, .ref (Γ.1 214)), (1, .int (i32 w)), (2, .int (i32 q)), (3, .int (i32 v))]) [0, 1, 2, 3] rfl ?_
  refine fV_aload_n (pc' := 1) G 0 dX4_set_0 rfl rfl rfl ?_
  refine fV_get (K := 4) (v := .ref (Γ.1 215)) (pc' := 4) G kfX4_set_7 (by omega) rfl rfl rfl dX4_set_1 rfl ?_
  refine fV_bipush (n := 13) (pc' := 6) G dX4_set_4 rfl rfl ?_
  refine fV_bipush (n := 19) (pc' := 8) G dX4_set_6 rfl rfl ?_
  refine fV_iload_n (pc' := 9) G 1 dX4_set_8 rfl rfl rfl ?_
  refine fV_imul (pc' := 10) G dX4_set_9 rfl ?_
  refine fV_iadd (pc' := 11) G dX4_set_10 rfl ?_
  refine fV_iload_n (pc' := 12) G 2 dX4_set_11 rfl rfl rfl ?_
  refine fV_iadd (pc' := 13) G dX4_set_12 rfl ?_
  refine fV_iload_n (pc' := 14) G 3 dX4_set_13 rfl rfl rfl ?_
  refine fV_iast (K := 8) (n := 241) (pc' := 15) G (by omega) rfl (fun _ _ => rfl) (by decide) (by omega) dX4_set_14 rfl (fun I1 eI1 => ?_)
  refine fV_vret G dX4_set_15 ?_
  exact fE_vm (by subst_vars; rfl) rfl
set_option maxHeartbeats 4000000 in
set_option maxRecDepth 100000 in
theorem mX4_isPut (l : Launch) (Γ : fG) {N : Nat} (hN : 220 ≤ N) (I : fM) (P : fN) (w : Int) (hw : 0 ≤ w ∧ w < 12) (hb : -1 ≤ I 215 (13 + 19 * w + 4) ∧ I 215 (13 + 19 * w + 4) ≤ 7) : fMet l yX4_isPut wsX4_isPut rmX4_isPut Γ N [.ref (Γ.1 214), .int (i32 w)] I P (fE (some (.int (i32 (fB (decide (I 215 (13 + 19 * w + 4) ≠ -1)))))) I P) := by
  refine fMet_of (own := RX4) (cc := cX4_isPut) (maxL := 2) (ret := (some .boolean)) rfl (by decide +kernel) rfl (Nat.le_of_ble_eq_true rfl) ?_
  intro p e s m args below meth c G
  refine fV_lv (lv' := [(0, .ref (Γ.1 214)), (1, .int (i32 w))]) [0, 1] rfl ?_
  refine fV_aload_n (pc' := 1) G 0 dX4_isPut_0 rfl rfl rfl ?_
  refine fV_iload_n (pc' := 2) G 1 dX4_isPut_1 rfl rfl rfl ?_
  refine fV_iconst (pc' := 3) G dX4_isPut_2 rfl ?_
  refine fV_callVf (st' := [.int (i32 (I 215 (13 + 19 * w + 4)))]) (n := 2) (k := 214) (K := 4) (As := [.int (i32 w), .int (i32 4)]) (rest := []) (pc' := 6) G (mX4_of l Γ hN I P w (by omega) 4 (by omega)) kcX4_isPut_37 (by omega) rfl rfl rfl rfl (Nat.le_of_ble_eq_true rfl) (Nat.zero_le _) (Nat.zero_le _) dX4_isPut_3 rfl rfl ?_
  refine fV_iconst (pc' := 7) G dX4_isPut_6 rfl ?_
  refine fV_icmp_eq (tgt := 14) (pc' := 10) G dX4_isPut_7 (by decide) rfl (by omega) (by decide) (fun c1 => ?_) (fun c1 => ?_)
  · refine fV_iconst (pc' := 15) G dX4_isPut_14 rfl ?_
    refine fV_zret (b := false) G dX4_isPut_15 ?_
    exact fE_b (by simp; omega)
  · refine fV_iconst (pc' := 11) G dX4_isPut_10 rfl ?_
    refine fV_goto (tgt := 15) G dX4_isPut_11 (by decide) ?_
    refine fV_zret (b := true) G dX4_isPut_15 ?_
    exact fE_b (by simp; omega)
set_option maxHeartbeats 4000000 in
set_option maxRecDepth 100000 in
theorem mX4_behind (l : Launch) (Γ : fG) {N : Nat} (hN : 220 ≤ N) (I : fM) (P : fN) (w : Int) (hw : 0 ≤ w ∧ w < 12) : fMet l yX4_behind wsX4_behind rmX4_behind Γ N [.ref (Γ.1 214), .int (i32 w)] I P (fE (some (.int (i32 (I 215 (13 + 19 * w + 0) + I 215 (13 + 19 * w + 1) + I 215 (13 + 19 * w + 2))))) I P) := by
  refine fMet_of (own := RX4) (cc := cX4_behind) (maxL := 2) (ret := (some .int)) rfl (by decide +kernel) rfl (Nat.le_of_ble_eq_true rfl) ?_
  intro p e s m args below meth c G
  refine fV_lv (lv' := [(0, .ref (Γ.1 214)), (1, .int (i32 w))]) [0, 1] rfl ?_
  refine fV_aload_n (pc' := 1) G 0 dX4_behind_0 rfl rfl rfl ?_
  refine fV_iload_n (pc' := 2) G 1 dX4_behind_1 rfl rfl rfl ?_
  refine fV_iconst (pc' := 3) G dX4_behind_2 rfl ?_
  refine fV_callVf (st' := [.int (i32 (I 215 (13 + 19 * w + 0)))]) (n := 2) (k := 214) (K := 4) (As := [.int (i32 w), .int (i32 0)]) (rest := []) (pc' := 6) G (mX4_of l Γ hN I P w (by omega) 0 (by omega)) kcX4_behind_37 (by omega) rfl rfl rfl rfl (Nat.le_of_ble_eq_true rfl) (Nat.zero_le _) (Nat.zero_le _) dX4_behind_3 rfl rfl ?_
  refine fV_aload_n (pc' := 7) G 0 dX4_behind_6 rfl rfl rfl ?_
  refine fV_iload_n (pc' := 8) G 1 dX4_behind_7 rfl rfl rfl ?_
  refine fV_iconst (pc' := 9) G dX4_behind_8 rfl ?_
  refine fV_callVf (st' := [.int (i32 (I 215 (13 + 19 * w + 1))), .int (i32 (I 215 (13 + 19 * w + 0)))]) (n := 2) (k := 214) (K := 4) (As := [.int (i32 w), .int (i32 1)]) (rest := [.int (i32 (I 215 (13 + 19 * w + 0)))]) (pc' := 12) G (mX4_of l Γ hN I P w (by omega) 1 (by omega)) kcX4_behind_37 (by omega) rfl rfl rfl rfl (Nat.le_of_ble_eq_true rfl) (Nat.zero_le _) (Nat.zero_le _) dX4_behind_9 rfl rfl ?_
  refine fV_iadd (pc' := 13) G dX4_behind_12 rfl ?_
  refine fV_aload_n (pc' := 14) G 0 dX4_behind_13 rfl rfl rfl ?_
  refine fV_iload_n (pc' := 15) G 1 dX4_behind_14 rfl rfl rfl ?_
  refine fV_iconst (pc' := 16) G dX4_behind_15 rfl ?_
  refine fV_callVf (st' := [.int (i32 (I 215 (13 + 19 * w + 2))), .int (i32 ((I 215 (13 + 19 * w + 0)) + (I 215 (13 + 19 * w + 1))))]) (n := 2) (k := 214) (K := 4) (As := [.int (i32 w), .int (i32 2)]) (rest := [.int (i32 ((I 215 (13 + 19 * w + 0)) + (I 215 (13 + 19 * w + 1))))]) (pc' := 19) G (mX4_of l Γ hN I P w (by omega) 2 (by omega)) kcX4_behind_37 (by omega) rfl rfl rfl rfl (Nat.le_of_ble_eq_true rfl) (Nat.zero_le _) (Nat.zero_le _) dX4_behind_16 rfl rfl ?_
  refine fV_iadd (pc' := 20) G dX4_behind_19 rfl ?_
  refine fV_iret G dX4_behind_20 ?_
  exact fE_i (by rfl)
set_option maxHeartbeats 4000000 in
set_option maxRecDepth 100000 in
theorem mX4_cut (l : Launch) (Γ : fG) {N : Nat} (hN : 220 ≤ N) (I : fM) (P : fN) (hm : mSv I) (w : Int) (hw : 0 ≤ w ∧ w < 12) (hr : mWv (mR I w)) : fMet l yX4_cut wsX4_cut rmX4_cut Γ N [.ref (Γ.1 214), .int (i32 w)] I P (fE (some (.int (i32 (sCutM (I 215 1) (fun i => I 215 (3 + i)) (I 215 (13 + 19 * w + 0)) 0)))) I P) := by
  refine fMet_of (own := RX4) (cc := cX4_cut) (maxL := 4) (ret := (some .int)) rfl (by decide +kernel) rfl (Nat.le_of_ble_eq_true rfl) ?_
  intro p e s m args below meth c G
  obtain ⟨hm1, hm2, hm3, hm4⟩ := id hm
  obtain ⟨hr1, hr2, hr3, hr4, hr5, hr6, hr7, hr8⟩ := id hr
  dsimp only [mR] at hr1 hr2 hr3 hr4 hr5 hr6 hr7 hr8
  have hsh : ∀ i : Int, 0 ≤ i → i < I 215 1 → -2147483648 ≤ I 215 (3 + i) ∧ I 215 (3 + i) ≤ 2147483647 := fun i q1 q2 => by have := hm4 i q1 q2; omega
  refine fV_lv (lv' := [(0, .ref (Γ.1 214)), (1, .int (i32 w))]) [0, 1] rfl ?_
  refine fV_sipush (n := 4001) (pc' := 3) G dX4_cut_0 rfl rfl ?_
  refine fV_istore_n (lv' := [(2, .int (i32 4001)), (0, .ref (Γ.1 214)), (1, .int (i32 w))]) (pc' := 4) G dX4_cut_3 rfl (by decide) rfl rfl ?_
  refine fV_aload_n (pc' := 5) G 1 dX4_cut_4 rfl rfl rfl ?_
  refine fV_get (K := 4) (v := .ref (Γ.1 215)) (pc' := 8) G kfX4_cut_7 (by omega) rfl rfl rfl dX4_cut_5 rfl ?_
  refine fV_iconst (pc' := 9) G dX4_cut_8 rfl ?_
  refine fV_iald (K := 8) (n := 241) (pc' := 10) G (by omega) rfl (fun _ _ => rfl) (by decide) (by first | omega | exact hsh _ (by omega) (by omega)) dX4_cut_9 rfl ?_
  refine fV_iconst (pc' := 11) G dX4_cut_10 rfl ?_
  refine fV_isub (pc' := 12) G dX4_cut_11 rfl ?_
  refine fV_istore_n (lv' := [(3, .int (i32 ((I 215 1) - 1))), (2, .int (i32 4001)), (0, .ref (Γ.1 214)), (1, .int (i32 w))]) (pc' := 13) G dX4_cut_12 rfl (by decide) rfl rfl ?_
  refine fV_lv (lv' := [(0, .ref (Γ.1 214)), (1, .int (i32 w)), (2, .int (i32 (sCutM (I 215 1) (fun i => I 215 (3 + i)) (I 215 (13 + 19 * w + 0)) (I 215 1 - 1 + 1)))), (3, .int (i32 (I 215 1 - 1)))]) [2, 3, 1, 0] (by rw [show sCutM (I 215 1) (fun i => I 215 (3 + i)) (I 215 (13 + 19 * w + 0)) (I 215 1 - 1 + 1) = 4001 from sCutM_nil (by omega)]; rfl) ?_
  have lp : ∀ (z : Nat) (j : Int), -1 ≤ j ∧ j < I 215 1 → ((j + 1).toNat) = z → fV p l e rmX4_cut s m args below meth c (MQ below (fQ Γ N (fE (some (.int (i32 (sCutM (I 215 1) (fun i => I 215 (3 + i)) (I 215 (13 + 19 * w + 0)) 0)))) I P)) args s 0 0 (fA Γ N)) (fA Γ N) Γ N 4 0 0 I P 13 [(0, .ref (Γ.1 214)), (1, .int (i32 w)), (2, .int (i32 (sCutM (I 215 1) (fun i => I 215 (3 + i)) (I 215 (13 + 19 * w + 0)) (j + 1)))), (3, .int (i32 j))] [] := by
    intro z
    induction z using Nat.strongRecOn with
    | _ z ih_lp =>
      intro j hj hz_lp
      refine fV_iload_n (pc' := 14) G 3 dX4_cut_13 rfl rfl rfl ?_
      refine fV_if_lt (tgt := 53) (pc' := 17) G dX4_cut_14 (by decide) rfl (by first | omega | exact hsh _ (by omega) (by omega)) (fun c101 => ?_) (fun c101 => ?_)
      · refine fV_iload_n (pc' := 54) G 2 dX4_cut_53 rfl rfl rfl ?_
        refine fV_iret G dX4_cut_54 ?_
        exact fE_i (by rw [show j + 1 = 0 by omega])
      · refine fV_aload_n (pc' := 18) G 0 dX4_cut_17 rfl rfl rfl ?_
        refine fV_get (K := 4) (v := .ref (Γ.1 215)) (pc' := 21) G kfX4_cut_7 (by omega) rfl rfl rfl dX4_cut_18 rfl ?_
        refine fV_iconst (pc' := 22) G dX4_cut_21 rfl ?_
        refine fV_iload_n (pc' := 23) G 3 dX4_cut_22 rfl rfl rfl ?_
        refine fV_iadd (pc' := 24) G dX4_cut_23 rfl ?_
        refine fV_iald (K := 8) (n := 241) (pc' := 25) G (by omega) rfl (fun _ _ => rfl) (by decide) (by first | omega | exact hsh _ (by omega) (by omega)) dX4_cut_24 rfl ?_
        refine fV_aload_n (pc' := 26) G 0 dX4_cut_25 rfl rfl rfl ?_
        refine fV_iload_n (pc' := 27) G 1 dX4_cut_26 rfl rfl rfl ?_
        refine fV_iconst (pc' := 28) G dX4_cut_27 rfl ?_
        refine fV_callVf (st' := [.int (i32 (I 215 (13 + 19 * w + 0))), .int (i32 (I 215 (3 + j)))]) (n := 2) (k := 214) (K := 4) (As := [.int (i32 w), .int (i32 0)]) (rest := [.int (i32 (I 215 (3 + j)))]) (pc' := 31) G (mX4_of l Γ hN I P w (by omega) 0 (by omega)) kcX4_cut_37 (by omega) rfl rfl rfl rfl (Nat.le_of_ble_eq_true rfl) (Nat.zero_le _) (Nat.zero_le _) dX4_cut_28 rfl rfl ?_
        refine fV_icmp_le (tgt := 45) (pc' := 34) G dX4_cut_31 (by decide) rfl (by first | omega | exact hsh _ (by omega) (by omega)) (by first | omega | exact hsh _ (by omega) (by omega)) (fun c102 => ?_) (fun c102 => ?_)
        · refine fV_iload_n (pc' := 46) G 2 dX4_cut_45 rfl rfl rfl ?_
          refine fV_istore_n (lv' := [(2, .int (i32 (sCutM (I 215 1) (fun i => I 215 (3 + i)) (I 215 (13 + 19 * w + 0)) (j + 1)))), (0, .ref (Γ.1 214)), (1, .int (i32 w)), (3, .int (i32 j))]) (pc' := 47) G dX4_cut_46 rfl (by decide) rfl rfl ?_
          refine fV_iinc (lv' := [(3, .int (i32 (j + (-1)))), (2, .int (i32 (sCutM (I 215 1) (fun i => I 215 (3 + i)) (I 215 (13 + 19 * w + 0)) (j + 1)))), (0, .ref (Γ.1 214)), (1, .int (i32 w))]) (pc' := 50) G 3 dX4_cut_47 rfl (by decide) rfl rfl ?_
          refine fV_goto (tgt := 13) G dX4_cut_50 (by decide) ?_
          refine fV_lv (lv' := [(0, .ref (Γ.1 214)), (1, .int (i32 w)), (2, .int (i32 (sCutM (I 215 1) (fun i => I 215 (3 + i)) (I 215 (13 + 19 * w + 0)) (j + (-1) + 1)))), (3, .int (i32 (j + (-1))))]) [2, 3, 1, 0] (by rw [show sCutM (I 215 1) (fun i => I 215 (3 + i)) (I 215 (13 + 19 * w + 0)) (j + (-1) + 1) = sCutM (I 215 1) (fun i => I 215 (3 + i)) (I 215 (13 + 19 * w + 0)) (j + 1) from (by rw [show j + (-1) + 1 = j by omega]; exact sCutM_next (by omega) (by omega))]; rfl) ?_
          exact ih_lp _ (by omega) (j + (-1)) (by omega) rfl
        · refine fV_aload_n (pc' := 35) G 0 dX4_cut_34 rfl rfl rfl ?_
          refine fV_get (K := 4) (v := .ref (Γ.1 215)) (pc' := 38) G kfX4_cut_7 (by omega) rfl rfl rfl dX4_cut_35 rfl ?_
          refine fV_iconst (pc' := 39) G dX4_cut_38 rfl ?_
          refine fV_iload_n (pc' := 40) G 3 dX4_cut_39 rfl rfl rfl ?_
          refine fV_iadd (pc' := 41) G dX4_cut_40 rfl ?_
          refine fV_iald (K := 8) (n := 241) (pc' := 42) G (by omega) rfl (fun _ _ => rfl) (by decide) (by first | omega | exact hsh _ (by omega) (by omega)) dX4_cut_41 rfl ?_
          refine fV_goto (tgt := 46) G dX4_cut_42 (by decide) ?_
          refine fV_istore_n (lv' := [(2, .int (i32 (I 215 (3 + j)))), (0, .ref (Γ.1 214)), (1, .int (i32 w)), (3, .int (i32 j))]) (pc' := 47) G dX4_cut_46 rfl (by decide) rfl rfl ?_
          refine fV_iinc (lv' := [(3, .int (i32 (j + (-1)))), (2, .int (i32 (I 215 (3 + j)))), (0, .ref (Γ.1 214)), (1, .int (i32 w))]) (pc' := 50) G 3 dX4_cut_47 rfl (by decide) rfl rfl ?_
          refine fV_goto (tgt := 13) G dX4_cut_50 (by decide) ?_
          refine fV_lv (lv' := [(0, .ref (Γ.1 214)), (1, .int (i32 w)), (2, .int (i32 (sCutM (I 215 1) (fun i => I 215 (3 + i)) (I 215 (13 + 19 * w + 0)) (j + (-1) + 1)))), (3, .int (i32 (j + (-1))))]) [2, 3, 1, 0] (by rw [show sCutM (I 215 1) (fun i => I 215 (3 + i)) (I 215 (13 + 19 * w + 0)) (j + (-1) + 1) = I 215 (3 + j) from (by rw [show j + (-1) + 1 = j by omega]; exact sCutM_hit (by omega) (by omega))]; rfl) ?_
          exact ih_lp _ (by omega) (j + (-1)) (by omega) rfl
  refine fV_lv (lv' := [(0, .ref (Γ.1 214)), (1, .int (i32 w)), (2, .int (i32 (sCutM (I 215 1) (fun i => I 215 (3 + i)) (I 215 (13 + 19 * w + 0)) (I 215 1 - 1 + 1)))), (3, .int (i32 (I 215 1 - 1)))]) [0, 1, 2, 3] rfl ?_
  exact lp _ (I 215 1 - 1) (by omega) rfl
set_option maxHeartbeats 4000000 in
set_option maxRecDepth 100000 in
theorem mX4_moved (l : Launch) (Γ : fG) {N : Nat} (hN : 220 ≤ N) (I : fM) (P : fN) (hm : mSv I) (w : Int) (hw : 0 ≤ w ∧ w < 12) (hr : mWv (mR I w)) (f : Int) (hf : 0 ≤ f ∧ f ≤ 4500) : fMet l yX4_moved wsX4_moved rmX4_moved Γ N [.ref (Γ.1 214), .int (i32 w), .int (i32 f)] I P (fE (some (.int (i32 (sMvW (I 215 2) (mR I w) f)))) I P) := by
  refine fMet_of (own := RX4) (cc := cX4_moved) (maxL := 5) (ret := (some .int)) rfl (by decide +kernel) rfl (Nat.le_of_ble_eq_true rfl) ?_
  intro p e s m args below meth c G
  obtain ⟨hm1, hm2, hm3, hm4⟩ := id hm
  obtain ⟨hr1, hr2, hr3, hr4, hr5, hr6, hr7, hr8⟩ := id hr
  dsimp only [mR] at hr1 hr2 hr3 hr4 hr5 hr6 hr7 hr8
  refine fV_lv (lv' := [(0, .ref (Γ.1 214)), (1, .int (i32 w)), (2, .int (i32 f))]) [0, 1, 2] rfl ?_
  refine fV_iload_n (pc' := 1) G 2 dX4_moved_0 rfl rfl rfl ?_
  refine fV_aload_n (pc' := 2) G 0 dX4_moved_1 rfl rfl rfl ?_
  refine fV_iload_n (pc' := 3) G 1 dX4_moved_2 rfl rfl rfl ?_
  refine fV_callVf (st' := [.int (i32 (I 215 (13 + 19 * w + 0) + I 215 (13 + 19 * w + 1) + I 215 (13 + 19 * w + 2))), .int (i32 f)]) (n := 1) (k := 214) (K := 4) (As := [.int (i32 w)]) (rest := [.int (i32 f)]) (pc' := 6) G (mX4_behind l Γ hN I P w (by omega)) kcX4_moved_45 (by omega) rfl rfl rfl rfl (Nat.le_of_ble_eq_true rfl) (Nat.zero_le _) (Nat.zero_le _) dX4_moved_3 rfl rfl ?_
  refine fV_isub (pc' := 7) G dX4_moved_6 rfl ?_
  refine fV_iconst (pc' := 8) G dX4_moved_7 rfl ?_
  refine fV_iadd (pc' := 9) G dX4_moved_8 rfl ?_
  refine fV_istore_n (lv' := [(3, .int (i32 ((f - (I 215 (13 + 19 * w + 0) + I 215 (13 + 19 * w + 1) + I 215 (13 + 19 * w + 2))) + 1))), (0, .ref (Γ.1 214)), (1, .int (i32 w)), (2, .int (i32 f))]) (pc' := 10) G dX4_moved_9 rfl (by decide) rfl rfl ?_
  refine fV_aload_n (pc' := 11) G 1 dX4_moved_10 rfl rfl rfl ?_
  refine fV_get (K := 4) (v := .ref (Γ.1 215)) (pc' := 14) G kfX4_moved_7 (by omega) rfl rfl rfl dX4_moved_11 rfl ?_
  refine fV_iconst (pc' := 15) G dX4_moved_14 rfl ?_
  refine fV_iald (K := 8) (n := 241) (pc' := 16) G (by omega) rfl (fun _ _ => rfl) (by decide) (by omega) dX4_moved_15 rfl ?_
  refine fV_i2f (pc' := 17) G dX4_moved_16 rfl ?_
  refine fV_ldcf (v := 1120403456) (pc' := 19) G klX4_moved_49 dX4_moved_17 rfl ?_
  refine fV_fdiv (pc' := 20) G dX4_moved_19 (fpv_fin hm3).2 rfl ?_
  refine fV_fstore (lv' := [(4, .float (FP.fdiv (FP.i2f (i32 (I 215 2))) 1120403456)), (3, .int (i32 ((f - (I 215 (13 + 19 * w + 0) + I 215 (13 + 19 * w + 1) + I 215 (13 + 19 * w + 2))) + 1))), (0, .ref (Γ.1 214)), (1, .int (i32 w)), (2, .int (i32 f))]) (pc' := 22) G dX4_moved_20 (by decide) rfl rfl ?_
  refine fV_iload_n (pc' := 23) G 1 dX4_moved_22 rfl rfl rfl ?_
  refine fV_iconst (pc' := 24) G dX4_moved_23 rfl ?_
  refine fV_icmp_ge (tgt := 31) (pc' := 27) G dX4_moved_24 (by decide) rfl (by omega) (by decide) (fun c1 => ?_) (fun c1 => ?_)
  · refine fV_iload_n (pc' := 32) G 1 dX4_moved_31 rfl rfl rfl ?_
    refine fV_i2f (pc' := 33) G dX4_moved_32 rfl ?_
    refine fV_fload (pc' := 35) G 0 dX4_moved_33 rfl rfl ?_
    refine fV_fmul (pc' := 36) G dX4_moved_35 (fmv_n hm3) rfl ?_
    refine fV_f2i (pc' := 37) (a := (FP.f2i (FP.fmul (FP.i2f (i32 ((f - (I 215 (13 + 19 * w + 0) + I 215 (13 + 19 * w + 1) + I 215 (13 + 19 * w + 2))) + 1))) (FP.fdiv (FP.i2f (i32 (I 215 2))) 1120403456))).toInt) G dX4_moved_36 (i32_self _).symm rfl ?_
    refine fV_iret G dX4_moved_37 ?_
    exact fE_i (by unfold sMvW sMv; dsimp only [mR]; first | rw [if_pos (by omega)] | rw [if_neg (by omega)])
  · refine fV_iconst (pc' := 28) G dX4_moved_27 rfl ?_
    refine fV_goto (tgt := 37) G dX4_moved_28 (by decide) ?_
    refine fV_iret G dX4_moved_37 ?_
    exact fE_i (by unfold sMvW sMv; dsimp only [mR]; first | rw [if_pos (by omega)] | rw [if_neg (by omega)])
set_option maxHeartbeats 4000000 in
set_option maxRecDepth 100000 in
theorem mX4_rowAt (l : Launch) (Γ : fG) {N : Nat} (hN : 220 ≤ N) (I : fM) (P : fN) (hm : mSv I) (w : Int) (hw : 0 ≤ w ∧ w < 12) (hr : mWv (mR I w)) (f : Int) (hf : 0 ≤ f ∧ f ≤ 4500) : fMet l yX4_rowAt wsX4_rowAt rmX4_rowAt Γ N [.ref (Γ.1 214), .int (i32 w), .int (i32 f)] I P (fE (some (.int (i32 (sRowM (I 215 2) (mR I w) f)))) I P) := by
  refine fMet_of (own := RX4) (cc := cX4_rowAt) (maxL := 4) (ret := (some .int)) rfl (by decide +kernel) rfl (Nat.le_of_ble_eq_true rfl) ?_
  intro p e s m args below meth c G
  obtain ⟨hm1, hm2, hm3, hm4⟩ := id hm
  obtain ⟨hr1, hr2, hr3, hr4, hr5, hr6, hr7, hr8⟩ := id hr
  dsimp only [mR] at hr1 hr2 hr3 hr4 hr5 hr6 hr7 hr8
  refine fV_lv (lv' := [(0, .ref (Γ.1 214)), (1, .int (i32 w)), (2, .int (i32 f))]) [0, 1, 2] rfl ?_
  refine fV_aload_n (pc' := 1) G 0 dX4_rowAt_0 rfl rfl rfl ?_
  refine fV_iload_n (pc' := 2) G 1 dX4_rowAt_1 rfl rfl rfl ?_
  refine fV_iconst (pc' := 3) G dX4_rowAt_2 rfl ?_
  refine fV_callVf (st' := [.int (i32 (I 215 (13 + 19 * w + 3)))]) (n := 2) (k := 214) (K := 4) (As := [.int (i32 w), .int (i32 3)]) (rest := []) (pc' := 6) G (mX4_of l Γ hN I P w (by omega) 3 (by omega)) kcX4_rowAt_37 (by omega) rfl rfl rfl rfl (Nat.le_of_ble_eq_true rfl) (Nat.zero_le _) (Nat.zero_le _) dX4_rowAt_3 rfl rfl ?_
  refine fV_istore_n (lv' := [(3, .int (i32 (I 215 (13 + 19 * w + 3)))), (0, .ref (Γ.1 214)), (1, .int (i32 w)), (2, .int (i32 f))]) (pc' := 7) G dX4_rowAt_6 rfl (by decide) rfl rfl ?_
  refine fV_aload_n (pc' := 8) G 1 dX4_rowAt_7 rfl rfl rfl ?_
  refine fV_iload_n (pc' := 9) G 2 dX4_rowAt_8 rfl rfl rfl ?_
  refine fV_iconst (pc' := 10) G dX4_rowAt_9 rfl ?_
  refine fV_callVf (st' := [.int (i32 (I 215 (13 + 19 * w + 4)))]) (n := 2) (k := 214) (K := 4) (As := [.int (i32 w), .int (i32 4)]) (rest := []) (pc' := 13) G (mX4_of l Γ hN I P w (by omega) 4 (by omega)) kcX4_rowAt_37 (by omega) rfl rfl rfl rfl (Nat.le_of_ble_eq_true rfl) (Nat.zero_le _) (Nat.zero_le _) dX4_rowAt_10 rfl rfl ?_
  refine fV_iload_n (pc' := 14) G 0 dX4_rowAt_13 rfl rfl rfl ?_
  refine fV_iconst (pc' := 15) G dX4_rowAt_14 rfl ?_
  refine fV_icmp_ne (tgt := 28) (pc' := 18) G dX4_rowAt_15 (by decide) rfl (by omega) (by decide) (fun c1 => ?_) (fun c1 => ?_)
  · refine fV_iload_n (pc' := 29) G 0 dX4_rowAt_28 rfl rfl rfl ?_
    refine fV_iconst (pc' := 30) G dX4_rowAt_29 rfl ?_
    refine fV_icmp_ne (tgt := 42) (pc' := 33) G dX4_rowAt_30 (by decide) rfl (by omega) (by decide) (fun c2 => ?_) (fun c2 => ?_)
    · refine fV_iconst (pc' := 43) G dX4_rowAt_42 rfl ?_
      refine fV_iadd (pc' := 44) G dX4_rowAt_43 rfl ?_
      refine fV_iret G dX4_rowAt_44 ?_
      exact fE_i (by unfold sRowM; dsimp only [mR]; simp [*])
    · refine fV_aload_n (pc' := 34) G 1 dX4_rowAt_33 rfl rfl rfl ?_
      refine fV_iload_n (pc' := 35) G 2 dX4_rowAt_34 rfl rfl rfl ?_
      refine fV_iload_n (pc' := 36) G 3 dX4_rowAt_35 rfl rfl rfl ?_
      refine fV_callVf (st' := [.int (i32 (sMvW (I 215 2) (mR I w) f)), .int (i32 (I 215 (13 + 19 * w + 4)))]) (n := 2) (k := 214) (K := 4) (As := [.int (i32 w), .int (i32 f)]) (rest := [.int (i32 (I 215 (13 + 19 * w + 4)))]) (pc' := 39) G (mX4_moved l Γ hN I P hm w (by omega) hr f (by omega)) kcX4_rowAt_50 (by omega) rfl rfl rfl rfl (Nat.le_of_ble_eq_true rfl) (Nat.zero_le _) (Nat.zero_le _) dX4_rowAt_36 rfl rfl ?_
      refine fV_goto (tgt := 43) G dX4_rowAt_39 (by decide) ?_
      refine fV_iadd (pc' := 44) G dX4_rowAt_43 rfl ?_
      refine fV_iret G dX4_rowAt_44 ?_
      exact fE_i (by unfold sRowM; dsimp only [mR]; simp [*])
  · refine fV_aload_n (pc' := 19) G 1 dX4_rowAt_18 rfl rfl rfl ?_
    refine fV_iload_n (pc' := 20) G 2 dX4_rowAt_19 rfl rfl rfl ?_
    refine fV_iload_n (pc' := 21) G 3 dX4_rowAt_20 rfl rfl rfl ?_
    refine fV_callVf (st' := [.int (i32 (sMvW (I 215 2) (mR I w) f)), .int (i32 (I 215 (13 + 19 * w + 4)))]) (n := 2) (k := 214) (K := 4) (As := [.int (i32 w), .int (i32 f)]) (rest := [.int (i32 (I 215 (13 + 19 * w + 4)))]) (pc' := 24) G (mX4_moved l Γ hN I P hm w (by omega) hr f (by omega)) kcX4_rowAt_50 (by omega) rfl rfl rfl rfl (Nat.le_of_ble_eq_true rfl) (Nat.zero_le _) (Nat.zero_le _) dX4_rowAt_21 rfl rfl ?_
    refine fV_ineg (pc' := 25) G dX4_rowAt_24 rfl ?_
    refine fV_goto (tgt := 43) G dX4_rowAt_25 (by decide) ?_
    refine fV_iadd (pc' := 44) G dX4_rowAt_43 rfl ?_
    refine fV_iret G dX4_rowAt_44 ?_
    exact fE_i (by unfold sRowM; dsimp only [mR]; simp [*])
set_option maxHeartbeats 4000000 in
set_option maxRecDepth 100000 in
theorem mX4_columnAt (l : Launch) (Γ : fG) {N : Nat} (hN : 220 ≤ N) (I : fM) (P : fN) (hm : mSv I) (w : Int) (hw : 0 ≤ w ∧ w < 12) (hr : mWv (mR I w)) (f : Int) (hf : 0 ≤ f ∧ f ≤ 4500) : fMet l yX4_columnAt wsX4_columnAt rmX4_columnAt Γ N [.ref (Γ.1 214), .int (i32 w), .int (i32 f)] I P (fE (some (.int (i32 (sColM (I 215 2) (mR I w) f)))) I P) := by
  refine fMet_of (own := RX4) (cc := cX4_columnAt) (maxL := 4) (ret := (some .int)) rfl (by decide +kernel) rfl (Nat.le_of_ble_eq_true rfl) ?_
  intro p e s m args below meth c G
  obtain ⟨hm1, hm2, hm3, hm4⟩ := id hm
  obtain ⟨hr1, hr2, hr3, hr4, hr5, hr6, hr7, hr8⟩ := id hr
  dsimp only [mR] at hr1 hr2 hr3 hr4 hr5 hr6 hr7 hr8
  refine fV_lv (lv' := [(0, .ref (Γ.1 214)), (1, .int (i32 w)), (2, .int (i32 f))]) [0, 1, 2] rfl ?_
  refine fV_aload_n (pc' := 1) G 0 dX4_columnAt_0 rfl rfl rfl ?_
  refine fV_iload_n (pc' := 2) G 1 dX4_columnAt_1 rfl rfl rfl ?_
  refine fV_iconst (pc' := 3) G dX4_columnAt_2 rfl ?_
  refine fV_callVf (st' := [.int (i32 (I 215 (13 + 19 * w + 3)))]) (n := 2) (k := 214) (K := 4) (As := [.int (i32 w), .int (i32 3)]) (rest := []) (pc' := 6) G (mX4_of l Γ hN I P w (by omega) 3 (by omega)) kcX4_columnAt_37 (by omega) rfl rfl rfl rfl (Nat.le_of_ble_eq_true rfl) (Nat.zero_le _) (Nat.zero_le _) dX4_columnAt_3 rfl rfl ?_
  refine fV_istore_n (lv' := [(3, .int (i32 (I 215 (13 + 19 * w + 3)))), (0, .ref (Γ.1 214)), (1, .int (i32 w)), (2, .int (i32 f))]) (pc' := 7) G dX4_columnAt_6 rfl (by decide) rfl rfl ?_
  refine fV_aload_n (pc' := 8) G 1 dX4_columnAt_7 rfl rfl rfl ?_
  refine fV_iload_n (pc' := 9) G 2 dX4_columnAt_8 rfl rfl rfl ?_
  refine fV_iconst (pc' := 10) G dX4_columnAt_9 rfl ?_
  refine fV_callVf (st' := [.int (i32 (I 215 (13 + 19 * w + 5)))]) (n := 2) (k := 214) (K := 4) (As := [.int (i32 w), .int (i32 5)]) (rest := []) (pc' := 13) G (mX4_of l Γ hN I P w (by omega) 5 (by omega)) kcX4_columnAt_37 (by omega) rfl rfl rfl rfl (Nat.le_of_ble_eq_true rfl) (Nat.zero_le _) (Nat.zero_le _) dX4_columnAt_10 rfl rfl ?_
  refine fV_iload_n (pc' := 14) G 0 dX4_columnAt_13 rfl rfl rfl ?_
  refine fV_iconst (pc' := 15) G dX4_columnAt_14 rfl ?_
  refine fV_icmp_ne (tgt := 28) (pc' := 18) G dX4_columnAt_15 (by decide) rfl (by omega) (by decide) (fun c1 => ?_) (fun c1 => ?_)
  · refine fV_iload_n (pc' := 29) G 0 dX4_columnAt_28 rfl rfl rfl ?_
    refine fV_iconst (pc' := 30) G dX4_columnAt_29 rfl ?_
    refine fV_icmp_ne (tgt := 42) (pc' := 33) G dX4_columnAt_30 (by decide) rfl (by omega) (by decide) (fun c2 => ?_) (fun c2 => ?_)
    · refine fV_iconst (pc' := 43) G dX4_columnAt_42 rfl ?_
      refine fV_iadd (pc' := 44) G dX4_columnAt_43 rfl ?_
      refine fV_iret G dX4_columnAt_44 ?_
      exact fE_i (by unfold sColM; dsimp only [mR]; simp [*])
    · refine fV_aload_n (pc' := 34) G 1 dX4_columnAt_33 rfl rfl rfl ?_
      refine fV_iload_n (pc' := 35) G 2 dX4_columnAt_34 rfl rfl rfl ?_
      refine fV_iload_n (pc' := 36) G 3 dX4_columnAt_35 rfl rfl rfl ?_
      refine fV_callVf (st' := [.int (i32 (sMvW (I 215 2) (mR I w) f)), .int (i32 (I 215 (13 + 19 * w + 5)))]) (n := 2) (k := 214) (K := 4) (As := [.int (i32 w), .int (i32 f)]) (rest := [.int (i32 (I 215 (13 + 19 * w + 5)))]) (pc' := 39) G (mX4_moved l Γ hN I P hm w (by omega) hr f (by omega)) kcX4_columnAt_50 (by omega) rfl rfl rfl rfl (Nat.le_of_ble_eq_true rfl) (Nat.zero_le _) (Nat.zero_le _) dX4_columnAt_36 rfl rfl ?_
      refine fV_goto (tgt := 43) G dX4_columnAt_39 (by decide) ?_
      refine fV_iadd (pc' := 44) G dX4_columnAt_43 rfl ?_
      refine fV_iret G dX4_columnAt_44 ?_
      exact fE_i (by unfold sColM; dsimp only [mR]; simp [*])
  · refine fV_aload_n (pc' := 19) G 1 dX4_columnAt_18 rfl rfl rfl ?_
    refine fV_iload_n (pc' := 20) G 2 dX4_columnAt_19 rfl rfl rfl ?_
    refine fV_iload_n (pc' := 21) G 3 dX4_columnAt_20 rfl rfl rfl ?_
    refine fV_callVf (st' := [.int (i32 (sMvW (I 215 2) (mR I w) f)), .int (i32 (I 215 (13 + 19 * w + 5)))]) (n := 2) (k := 214) (K := 4) (As := [.int (i32 w), .int (i32 f)]) (rest := [.int (i32 (I 215 (13 + 19 * w + 5)))]) (pc' := 24) G (mX4_moved l Γ hN I P hm w (by omega) hr f (by omega)) kcX4_columnAt_50 (by omega) rfl rfl rfl rfl (Nat.le_of_ble_eq_true rfl) (Nat.zero_le _) (Nat.zero_le _) dX4_columnAt_21 rfl rfl ?_
    refine fV_ineg (pc' := 25) G dX4_columnAt_24 rfl ?_
    refine fV_goto (tgt := 43) G dX4_columnAt_25 (by decide) ?_
    refine fV_iadd (pc' := 44) G dX4_columnAt_43 rfl ?_
    refine fV_iret G dX4_columnAt_44 ?_
    exact fE_i (by unfold sColM; dsimp only [mR]; simp [*])
set_option maxHeartbeats 4000000 in
set_option maxRecDepth 100000 in
theorem mX4_isOn (l : Launch) (Γ : fG) {N : Nat} (hN : 220 ≤ N) (I : fM) (P : fN) (hm : mSv I) (w : Int) (hw : 0 ≤ w ∧ w < 12) (hr : mWv (mR I w)) (f : Int) (hf : 0 ≤ f ∧ f ≤ 4500) : fMet l yX4_isOn wsX4_isOn rmX4_isOn Γ N [.ref (Γ.1 214), .int (i32 w), .int (i32 f)] I P (fE (some (.int (i32 (fB (sOnB (I 215 2) (I 215 1) (fun i => I 215 (3 + i)) (mR I w) f))))) I P) := by
  refine fMet_of (own := RX4) (cc := cX4_isOn) (maxL := 4) (ret := (some .boolean)) rfl (by decide +kernel) rfl (Nat.le_of_ble_eq_true rfl) ?_
  intro p e s m args below meth c G
  obtain ⟨hm1, hm2, hm3, hm4⟩ := id hm
  obtain ⟨hr1, hr2, hr3, hr4, hr5, hr6, hr7, hr8⟩ := id hr
  dsimp only [mR] at hr1 hr2 hr3 hr4 hr5 hr6 hr7 hr8
  have hcb := sCutM_b (n := I 215 1) (sh := fun i => I 215 (3 + i)) (a := I 215 (13 + 19 * w + 0)) (k := 0) (by omega) hm4
  have hrb := sRowM_b hm3 hr (f := f) (by omega)
  have hcl := sColM_b hm3 hr (f := f) (by omega)
  refine fV_lv (lv' := [(0, .ref (Γ.1 214)), (1, .int (i32 w)), (2, .int (i32 f))]) [0, 1, 2] rfl ?_
  refine fV_aload_n (pc' := 1) G 0 dX4_isOn_0 rfl rfl rfl ?_
  refine fV_iload_n (pc' := 2) G 1 dX4_isOn_1 rfl rfl rfl ?_
  refine fV_callVf (st' := [.int (i32 (fB (decide (I 215 (13 + 19 * w + 4) ≠ -1))))]) (n := 1) (k := 214) (K := 4) (As := [.int (i32 w)]) (rest := []) (pc' := 5) G (mX4_isPut l Γ hN I P w (by omega) (by omega)) kcX4_isOn_41 (by omega) rfl rfl rfl rfl (Nat.le_of_ble_eq_true rfl) (Nat.zero_le _) (Nat.zero_le _) dX4_isOn_2 rfl rfl ?_
  refine fV_ifeq_b (tgt := 45) (pc' := 8) G dX4_isOn_5 (by decide) rfl (fun c1 => ?_) (fun c1 => ?_)
  · refine fV_iconst (pc' := 46) G dX4_isOn_45 rfl ?_
    refine fV_zret (b := false) G dX4_isOn_46 ?_
    exact fE_b (by unfold sOnB sOnM; dsimp only [mR] at *; simp [sBetw] at *; omega)
  · refine fV_iload_n (pc' := 9) G 2 dX4_isOn_8 rfl rfl rfl ?_
    refine fV_aload_n (pc' := 10) G 0 dX4_isOn_9 rfl rfl rfl ?_
    refine fV_iload_n (pc' := 11) G 1 dX4_isOn_10 rfl rfl rfl ?_
    refine fV_iconst (pc' := 12) G dX4_isOn_11 rfl ?_
    refine fV_callVf (st' := [.int (i32 (I 215 (13 + 19 * w + 0))), .int (i32 f)]) (n := 2) (k := 214) (K := 4) (As := [.int (i32 w), .int (i32 0)]) (rest := [.int (i32 f)]) (pc' := 15) G (mX4_of l Γ hN I P w (by omega) 0 (by omega)) kcX4_isOn_37 (by omega) rfl rfl rfl rfl (Nat.le_of_ble_eq_true rfl) (Nat.zero_le _) (Nat.zero_le _) dX4_isOn_12 rfl rfl ?_
    refine fV_icmp_lt (tgt := 45) (pc' := 18) G dX4_isOn_15 (by decide) rfl (by omega) (by omega) (fun c2 => ?_) (fun c2 => ?_)
    · refine fV_iconst (pc' := 46) G dX4_isOn_45 rfl ?_
      refine fV_zret (b := false) G dX4_isOn_46 ?_
      exact fE_b (by unfold sOnB sOnM; dsimp only [mR] at *; simp [sBetw] at *; omega)
    · refine fV_iload_n (pc' := 19) G 2 dX4_isOn_18 rfl rfl rfl ?_
      refine fV_aload_n (pc' := 20) G 0 dX4_isOn_19 rfl rfl rfl ?_
      refine fV_iload_n (pc' := 21) G 1 dX4_isOn_20 rfl rfl rfl ?_
      refine fV_callVf (st' := [.int (i32 (sCutM (I 215 1) (fun i => I 215 (3 + i)) (I 215 (13 + 19 * w + 0)) 0)), .int (i32 f)]) (n := 1) (k := 214) (K := 4) (As := [.int (i32 w)]) (rest := [.int (i32 f)]) (pc' := 24) G (mX4_cut l Γ hN I P hm w (by omega) hr) kcX4_isOn_53 (by omega) rfl rfl rfl rfl (Nat.le_of_ble_eq_true rfl) (Nat.zero_le _) (Nat.zero_le _) dX4_isOn_21 rfl rfl ?_
      refine fV_icmp_ge (tgt := 45) (pc' := 27) G dX4_isOn_24 (by decide) rfl (by omega) (by omega) (fun c3 => ?_) (fun c3 => ?_)
      · refine fV_iconst (pc' := 46) G dX4_isOn_45 rfl ?_
        refine fV_zret (b := false) G dX4_isOn_46 ?_
        exact fE_b (by unfold sOnB sOnM; dsimp only [mR] at *; simp [sBetw] at *; omega)
      · refine fV_aload_n (pc' := 28) G 0 dX4_isOn_27 rfl rfl rfl ?_
        refine fV_iload_n (pc' := 29) G 1 dX4_isOn_28 rfl rfl rfl ?_
        refine fV_iconst (pc' := 30) G dX4_isOn_29 rfl ?_
        refine fV_callVf (st' := [.int (i32 (I 215 (13 + 19 * w + 3)))]) (n := 2) (k := 214) (K := 4) (As := [.int (i32 w), .int (i32 3)]) (rest := []) (pc' := 33) G (mX4_of l Γ hN I P w (by omega) 3 (by omega)) kcX4_isOn_37 (by omega) rfl rfl rfl rfl (Nat.le_of_ble_eq_true rfl) (Nat.zero_le _) (Nat.zero_le _) dX4_isOn_30 rfl rfl ?_
        refine fV_if_ne (tgt := 47) (pc' := 36) G dX4_isOn_33 (by decide) rfl (by omega) (fun c4 => ?_) (fun c4 => ?_)
        · refine fV_aload_n (pc' := 48) G 0 dX4_isOn_47 rfl rfl rfl ?_
          refine fV_iload_n (pc' := 49) G 1 dX4_isOn_48 rfl rfl rfl ?_
          refine fV_iload_n (pc' := 50) G 2 dX4_isOn_49 rfl rfl rfl ?_
          refine fV_callVf (st' := [.int (i32 (sColM (I 215 2) (mR I w) f))]) (n := 2) (k := 214) (K := 4) (As := [.int (i32 w), .int (i32 f)]) (rest := []) (pc' := 53) G (mX4_columnAt l Γ hN I P hm w (by omega) hr f (by omega)) kcX4_isOn_56 (by omega) rfl rfl rfl rfl (Nat.le_of_ble_eq_true rfl) (Nat.zero_le _) (Nat.zero_le _) dX4_isOn_50 rfl rfl ?_
          refine fV_istore_n (lv' := [(3, .int (i32 (sColM (I 215 2) (mR I w) f))), (0, .ref (Γ.1 214)), (1, .int (i32 w)), (2, .int (i32 f))]) (pc' := 54) G dX4_isOn_53 rfl (by decide) rfl rfl ?_
          refine fV_aload_n (pc' := 55) G 1 dX4_isOn_54 rfl rfl rfl ?_
          refine fV_iload_n (pc' := 56) G 2 dX4_isOn_55 rfl rfl rfl ?_
          refine fV_iload_n (pc' := 57) G 3 dX4_isOn_56 rfl rfl rfl ?_
          refine fV_callVf (st' := [.int (i32 (sRowM (I 215 2) (mR I w) f))]) (n := 2) (k := 214) (K := 4) (As := [.int (i32 w), .int (i32 f)]) (rest := []) (pc' := 60) G (mX4_rowAt l Γ hN I P hm w (by omega) hr f (by omega)) kcX4_isOn_59 (by omega) rfl rfl rfl rfl (Nat.le_of_ble_eq_true rfl) (Nat.zero_le _) (Nat.zero_le _) dX4_isOn_57 rfl rfl ?_
          refine fV_i2l (pc' := 61) G dX4_isOn_60 rfl (by omega) ?_
          refine fV_lconst (v := 0) (pc' := 62) G dX4_isOn_61 rfl rfl ?_
          refine fV_ldc2 (a := 7) (pc' := 65) G klX4_isOn_62 rfl dX4_isOn_62 rfl ?_
          refine fV_callSf (st' := [.int (i32 (fB (sBetw (sRowM (I 215 2) (mR I w) f) 0 7)))]) (n := 3) (As := [.long (i64 (sRowM (I 215 2) (mR I w) f)), .long (i64 0), .long (i64 7)]) (rest := []) (pc' := 68) G (mX4_in l Γ hN I P (sRowM (I 215 2) (mR I w) f) 0 7 (by omega) (by omega) (by omega)) kcX4_isOn_33 rfl rfl (Nat.le_of_ble_eq_true rfl) (Nat.zero_le _) (Nat.zero_le _) dX4_isOn_65 rfl rfl ?_
          refine fV_ifeq_b (tgt := 93) (pc' := 71) G dX4_isOn_68 (by decide) rfl (fun c5 => ?_) (fun c5 => ?_)
          · refine fV_iconst (pc' := 94) G dX4_isOn_93 rfl ?_
            refine fV_zret (b := false) G dX4_isOn_94 ?_
            exact fE_b (by unfold sOnB sOnM; dsimp only [mR] at *; simp [sBetw] at *; omega)
          · refine fV_iload_n (pc' := 72) G 0 dX4_isOn_71 rfl rfl rfl ?_
            refine fV_bipush (n := 40) (pc' := 74) G dX4_isOn_72 rfl rfl ?_
            refine fV_icmp_ge (tgt := 93) (pc' := 77) G dX4_isOn_74 (by decide) rfl (by omega) (by decide) (fun c6 => ?_) (fun c6 => ?_)
            · refine fV_iconst (pc' := 94) G dX4_isOn_93 rfl ?_
              refine fV_zret (b := false) G dX4_isOn_94 ?_
              exact fE_b (by unfold sOnB sOnM; dsimp only [mR] at *; simp [sBetw] at *; omega)
            · refine fV_iload_n (pc' := 78) G 0 dX4_isOn_77 rfl rfl rfl ?_
              refine fV_aload_n (pc' := 79) G 1 dX4_isOn_78 rfl rfl rfl ?_
              refine fV_iload_n (pc' := 80) G 2 dX4_isOn_79 rfl rfl rfl ?_
              refine fV_bipush (n := 6) (pc' := 82) G dX4_isOn_80 rfl rfl ?_
              refine fV_callVf (st' := [.int (i32 (I 215 (13 + 19 * w + 6))), .int (i32 (sColM (I 215 2) (mR I w) f))]) (n := 2) (k := 214) (K := 4) (As := [.int (i32 w), .int (i32 6)]) (rest := [.int (i32 (sColM (I 215 2) (mR I w) f))]) (pc' := 85) G (mX4_of l Γ hN I P w (by omega) 6 (by omega)) kcX4_isOn_37 (by omega) rfl rfl rfl rfl (Nat.le_of_ble_eq_true rfl) (Nat.zero_le _) (Nat.zero_le _) dX4_isOn_82 rfl rfl ?_
              refine fV_iadd (pc' := 86) G dX4_isOn_85 rfl ?_
              refine fV_if_le (tgt := 93) (pc' := 89) G dX4_isOn_86 (by decide) rfl (by omega) (fun c7 => ?_) (fun c7 => ?_)
              · refine fV_iconst (pc' := 94) G dX4_isOn_93 rfl ?_
                refine fV_zret (b := false) G dX4_isOn_94 ?_
                exact fE_b (by unfold sOnB sOnM; dsimp only [mR] at *; simp [sBetw] at *; omega)
              · refine fV_iconst (pc' := 90) G dX4_isOn_89 rfl ?_
                refine fV_goto (tgt := 94) G dX4_isOn_90 (by decide) ?_
                refine fV_zret (b := true) G dX4_isOn_94 ?_
                exact fE_b (by unfold sOnB sOnM; dsimp only [mR] at *; simp [sBetw] at *; omega)
        · refine fV_iload_n (pc' := 37) G 2 dX4_isOn_36 rfl rfl rfl ?_
          refine fV_aload_n (pc' := 38) G 0 dX4_isOn_37 rfl rfl rfl ?_
          refine fV_iload_n (pc' := 39) G 1 dX4_isOn_38 rfl rfl rfl ?_
          refine fV_callVf (st' := [.int (i32 (I 215 (13 + 19 * w + 0) + I 215 (13 + 19 * w + 1) + I 215 (13 + 19 * w + 2))), .int (i32 f)]) (n := 1) (k := 214) (K := 4) (As := [.int (i32 w)]) (rest := [.int (i32 f)]) (pc' := 42) G (mX4_behind l Γ hN I P w (by omega)) kcX4_isOn_45 (by omega) rfl rfl rfl rfl (Nat.le_of_ble_eq_true rfl) (Nat.zero_le _) (Nat.zero_le _) dX4_isOn_39 rfl rfl ?_
          refine fV_icmp_lt (tgt := 47) (pc' := 45) G dX4_isOn_42 (by decide) rfl (by omega) (by omega) (fun c5 => ?_) (fun c5 => ?_)
          · refine fV_aload_n (pc' := 48) G 0 dX4_isOn_47 rfl rfl rfl ?_
            refine fV_iload_n (pc' := 49) G 1 dX4_isOn_48 rfl rfl rfl ?_
            refine fV_iload_n (pc' := 50) G 2 dX4_isOn_49 rfl rfl rfl ?_
            refine fV_callVf (st' := [.int (i32 (sColM (I 215 2) (mR I w) f))]) (n := 2) (k := 214) (K := 4) (As := [.int (i32 w), .int (i32 f)]) (rest := []) (pc' := 53) G (mX4_columnAt l Γ hN I P hm w (by omega) hr f (by omega)) kcX4_isOn_56 (by omega) rfl rfl rfl rfl (Nat.le_of_ble_eq_true rfl) (Nat.zero_le _) (Nat.zero_le _) dX4_isOn_50 rfl rfl ?_
            refine fV_istore_n (lv' := [(3, .int (i32 (sColM (I 215 2) (mR I w) f))), (0, .ref (Γ.1 214)), (1, .int (i32 w)), (2, .int (i32 f))]) (pc' := 54) G dX4_isOn_53 rfl (by decide) rfl rfl ?_
            refine fV_aload_n (pc' := 55) G 1 dX4_isOn_54 rfl rfl rfl ?_
            refine fV_iload_n (pc' := 56) G 2 dX4_isOn_55 rfl rfl rfl ?_
            refine fV_iload_n (pc' := 57) G 3 dX4_isOn_56 rfl rfl rfl ?_
            refine fV_callVf (st' := [.int (i32 (sRowM (I 215 2) (mR I w) f))]) (n := 2) (k := 214) (K := 4) (As := [.int (i32 w), .int (i32 f)]) (rest := []) (pc' := 60) G (mX4_rowAt l Γ hN I P hm w (by omega) hr f (by omega)) kcX4_isOn_59 (by omega) rfl rfl rfl rfl (Nat.le_of_ble_eq_true rfl) (Nat.zero_le _) (Nat.zero_le _) dX4_isOn_57 rfl rfl ?_
            refine fV_i2l (pc' := 61) G dX4_isOn_60 rfl (by omega) ?_
            refine fV_lconst (v := 0) (pc' := 62) G dX4_isOn_61 rfl rfl ?_
            refine fV_ldc2 (a := 7) (pc' := 65) G klX4_isOn_62 rfl dX4_isOn_62 rfl ?_
            refine fV_callSf (st' := [.int (i32 (fB (sBetw (sRowM (I 215 2) (mR I w) f) 0 7)))]) (n := 3) (As := [.long (i64 (sRowM (I 215 2) (mR I w) f)), .long (i64 0), .long (i64 7)]) (rest := []) (pc' := 68) G (mX4_in l Γ hN I P (sRowM (I 215 2) (mR I w) f) 0 7 (by omega) (by omega) (by omega)) kcX4_isOn_33 rfl rfl (Nat.le_of_ble_eq_true rfl) (Nat.zero_le _) (Nat.zero_le _) dX4_isOn_65 rfl rfl ?_
            refine fV_ifeq_b (tgt := 93) (pc' := 71) G dX4_isOn_68 (by decide) rfl (fun c6 => ?_) (fun c6 => ?_)
            · refine fV_iconst (pc' := 94) G dX4_isOn_93 rfl ?_
              refine fV_zret (b := false) G dX4_isOn_94 ?_
              exact fE_b (by unfold sOnB sOnM; dsimp only [mR] at *; simp [sBetw] at *; omega)
            · refine fV_iload_n (pc' := 72) G 0 dX4_isOn_71 rfl rfl rfl ?_
              refine fV_bipush (n := 40) (pc' := 74) G dX4_isOn_72 rfl rfl ?_
              refine fV_icmp_ge (tgt := 93) (pc' := 77) G dX4_isOn_74 (by decide) rfl (by omega) (by decide) (fun c7 => ?_) (fun c7 => ?_)
              · refine fV_iconst (pc' := 94) G dX4_isOn_93 rfl ?_
                refine fV_zret (b := false) G dX4_isOn_94 ?_
                exact fE_b (by unfold sOnB sOnM; dsimp only [mR] at *; simp [sBetw] at *; omega)
              · refine fV_iload_n (pc' := 78) G 0 dX4_isOn_77 rfl rfl rfl ?_
                refine fV_aload_n (pc' := 79) G 1 dX4_isOn_78 rfl rfl rfl ?_
                refine fV_iload_n (pc' := 80) G 2 dX4_isOn_79 rfl rfl rfl ?_
                refine fV_bipush (n := 6) (pc' := 82) G dX4_isOn_80 rfl rfl ?_
                refine fV_callVf (st' := [.int (i32 (I 215 (13 + 19 * w + 6))), .int (i32 (sColM (I 215 2) (mR I w) f))]) (n := 2) (k := 214) (K := 4) (As := [.int (i32 w), .int (i32 6)]) (rest := [.int (i32 (sColM (I 215 2) (mR I w) f))]) (pc' := 85) G (mX4_of l Γ hN I P w (by omega) 6 (by omega)) kcX4_isOn_37 (by omega) rfl rfl rfl rfl (Nat.le_of_ble_eq_true rfl) (Nat.zero_le _) (Nat.zero_le _) dX4_isOn_82 rfl rfl ?_
                refine fV_iadd (pc' := 86) G dX4_isOn_85 rfl ?_
                refine fV_if_le (tgt := 93) (pc' := 89) G dX4_isOn_86 (by decide) rfl (by omega) (fun c8 => ?_) (fun c8 => ?_)
                · refine fV_iconst (pc' := 94) G dX4_isOn_93 rfl ?_
                  refine fV_zret (b := false) G dX4_isOn_94 ?_
                  exact fE_b (by unfold sOnB sOnM; dsimp only [mR] at *; simp [sBetw] at *; omega)
                · refine fV_iconst (pc' := 90) G dX4_isOn_89 rfl ?_
                  refine fV_goto (tgt := 94) G dX4_isOn_90 (by decide) ?_
                  refine fV_zret (b := true) G dX4_isOn_94 ?_
                  exact fE_b (by unfold sOnB sOnM; dsimp only [mR] at *; simp [sBetw] at *; omega)
          · refine fV_iconst (pc' := 46) G dX4_isOn_45 rfl ?_
            refine fV_zret (b := false) G dX4_isOn_46 ?_
            exact fE_b (by unfold sOnB sOnM; dsimp only [mR] at *; simp [sBetw] at *; omega)
