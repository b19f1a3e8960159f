/-! CONTRACTS 2: a scene's reads (rows laid by wip/whole/gen/con2.py) -/
set_option maxHeartbeats 4000000 in
set_option maxRecDepth 100000 in
theorem mX0_hasWord (l : Launch) (Γ : fG) {N : Nat} (hN : 214 ≤ N) (I : fM) (P : fN) {sc : Nat} (hs : fSc sc) (hc : 0 ≤ I sc 1 ∧ I sc 1 ≤ 12) (w : Int) (h_w : -2147483648 ≤ w ∧ w ≤ 2147483647) : fMet l yX0_hasWord wsX0_hasWord rmX0_hasWord Γ N [.ref (Γ.1 sc), .int (i32 w)] I P (fE (some (.int (i32 (fB (decide (0 ≤ w ∧ w < I sc 1)))))) I P) := by
  refine fMet_of (own := RX0) (cc := cX0_hasWord) (maxL := 2) (ret := (some .boolean)) rfl (by decide +kernel) rfl (Nat.le_of_ble_eq_true rfl) ?_
  intro p e s m args below meth c G
  obtain ⟨hs0, hs1, hs2, hs3, hs4, hs5, hs6⟩ := fSc_k hs
  have hn0 : sc < N := by omega
  have hn1 : sc + 1 < N := by omega
  have hn2 : sc + 2 < N := by omega
  refine fV_lv (lv' := [(0, .ref (Γ.1 sc)), (1, .int (i32 w))]) [0, 1] rfl ?_
  refine fV_iload_n (pc' := 1) G 1 dX0_hasWord_0 rfl rfl rfl ?_
  refine fV_if_lt (tgt := 16) (pc' := 4) G dX0_hasWord_1 (by decide) rfl (by omega) (fun c1 => ?_) (fun c1 => ?_)
  · refine fV_iconst (pc' := 17) G dX0_hasWord_16 rfl ?_
    refine fV_zret (b := false) G dX0_hasWord_17 ?_
    exact fE_b (by simp; omega)
  · refine fV_iload_n (pc' := 5) G 1 dX0_hasWord_4 rfl rfl rfl ?_
    refine fV_aload_n (pc' := 6) G 0 dX0_hasWord_5 rfl rfl rfl ?_
    refine fV_get (K := 0) (v := .int (i32 (I sc 1))) (pc' := 9) G kfX0_hasWord_33 hn0 hs1 rfl rfl dX0_hasWord_6 rfl ?_
    refine fV_icmp_ge (tgt := 16) (pc' := 12) G dX0_hasWord_9 (by decide) rfl (by omega) (by omega) (fun c2 => ?_) (fun c2 => ?_)
    · refine fV_iconst (pc' := 17) G dX0_hasWord_16 rfl ?_
      refine fV_zret (b := false) G dX0_hasWord_17 ?_
      exact fE_b (by simp; omega)
    · refine fV_iconst (pc' := 13) G dX0_hasWord_12 rfl ?_
      refine fV_goto (tgt := 17) G dX0_hasWord_13 (by decide) ?_
      refine fV_zret (b := true) G dX0_hasWord_17 ?_
      exact fE_b (by simp; omega)
set_option maxHeartbeats 4000000 in
set_option maxRecDepth 100000 in
theorem mX0_hasRoomForWord (l : Launch) (Γ : fG) {N : Nat} (hN : 214 ≤ N) (I : fM) (P : fN) {sc : Nat} (hs : fSc sc) (hc : 0 ≤ I sc 1 ∧ I sc 1 ≤ 12) : fMet l yX0_hasRoomForWord wsX0_hasRoomForWord rmX0_hasRoomForWord Γ N [.ref (Γ.1 sc)] I P (fE (some (.int (i32 (fB (decide (I sc 1 < 12)))))) I P) := by
  refine fMet_of (own := RX0) (cc := cX0_hasRoomForWord) (maxL := 1) (ret := (some .boolean)) rfl (by decide +kernel) rfl (Nat.le_of_ble_eq_true rfl) ?_
  intro p e s m args below meth c G
  obtain ⟨hs0, hs1, hs2, hs3, hs4, hs5, hs6⟩ := fSc_k hs
  have hn0 : sc < N := by omega
  have hn1 : sc + 1 < N := by omega
  have hn2 : sc + 2 < N := by omega
  refine fV_lv (lv' := [(0, .ref (Γ.1 sc))]) [0] rfl ?_
  refine fV_aload_n (pc' := 1) G 0 dX0_hasRoomForWord_0 rfl rfl rfl ?_
  refine fV_get (K := 0) (v := .int (i32 (I sc 1))) (pc' := 4) G kfX0_hasRoomForWord_33 hn0 hs1 rfl rfl dX0_hasRoomForWord_1 rfl ?_
  refine fV_bipush (n := 12) (pc' := 6) G dX0_hasRoomForWord_4 rfl rfl ?_
  refine fV_icmp_ge (tgt := 13) (pc' := 9) G dX0_hasRoomForWord_6 (by decide) rfl (by omega) (by decide) (fun c1 => ?_) (fun c1 => ?_)
  · refine fV_iconst (pc' := 14) G dX0_hasRoomForWord_13 rfl ?_
    refine fV_zret (b := false) G dX0_hasRoomForWord_14 ?_
    exact fE_b (by simp; omega)
  · refine fV_iconst (pc' := 10) G dX0_hasRoomForWord_9 rfl ?_
    refine fV_goto (tgt := 14) G dX0_hasRoomForWord_10 (by decide) ?_
    refine fV_zret (b := true) G dX0_hasRoomForWord_14 ?_
    exact fE_b (by simp; omega)
set_option maxHeartbeats 4000000 in
set_option maxRecDepth 100000 in
theorem mX0_hasRoomForShot (l : Launch) (Γ : fG) {N : Nat} (hN : 214 ≤ N) (I : fM) (P : fN) {sc : Nat} (hs : fSc sc) (hc : 0 ≤ I sc 3 ∧ I sc 3 ≤ 10) : fMet l yX0_hasRoomForShot wsX0_hasRoomForShot rmX0_hasRoomForShot Γ N [.ref (Γ.1 sc)] I P (fE (some (.int (i32 (fB (decide (I sc 3 < 10)))))) I P) := by
  refine fMet_of (own := RX0) (cc := cX0_hasRoomForShot) (maxL := 1) (ret := (some .boolean)) rfl (by decide +kernel) rfl (Nat.le_of_ble_eq_true rfl) ?_
  intro p e s m args below meth c G
  obtain ⟨hs0, hs1, hs2, hs3, hs4, hs5, hs6⟩ := fSc_k hs
  have hn0 : sc < N := by omega
  have hn1 : sc + 1 < N := by omega
  have hn2 : sc + 2 < N := by omega
  refine fV_lv (lv' := [(0, .ref (Γ.1 sc))]) [0] rfl ?_
  refine fV_aload_n (pc' := 1) G 0 dX0_hasRoomForShot_0 rfl rfl rfl ?_
  refine fV_get (K := 0) (v := .int (i32 (I sc 3))) (pc' := 4) G kfX0_hasRoomForShot_46 hn0 hs1 rfl rfl dX0_hasRoomForShot_1 rfl ?_
  refine fV_bipush (n := 10) (pc' := 6) G dX0_hasRoomForShot_4 rfl rfl ?_
  refine fV_icmp_ge (tgt := 13) (pc' := 9) G dX0_hasRoomForShot_6 (by decide) rfl (by omega) (by decide) (fun c1 => ?_) (fun c1 => ?_)
  · refine fV_iconst (pc' := 14) G dX0_hasRoomForShot_13 rfl ?_
    refine fV_zret (b := false) G dX0_hasRoomForShot_14 ?_
    exact fE_b (by simp; omega)
  · refine fV_iconst (pc' := 10) G dX0_hasRoomForShot_9 rfl ?_
    refine fV_goto (tgt := 14) G dX0_hasRoomForShot_10 (by decide) ?_
    refine fV_zret (b := true) G dX0_hasRoomForShot_14 ?_
    exact fE_b (by simp; omega)
set_option maxHeartbeats 4000000 in
set_option maxRecDepth 100000 in
theorem mX0_cellsMoved (l : Launch) (Γ : fG) {N : Nat} (hN : 214 ≤ N) (I : fM) (P : fN) {sc : Nat} (hs : fSc sc) (hc : 50 ≤ I sc 4 ∧ I sc 4 ≤ 400) (i : Int) (hi : -100000 ≤ i ∧ i ≤ 5000) : fMet l yX0_cellsMoved wsX0_cellsMoved rmX0_cellsMoved Γ N [.ref (Γ.1 sc), .int (i32 i)] I P (fE (some (.int (i32 (sMv (I sc 4) i)))) I P) := by
  refine fMet_of (own := RX0) (cc := cX0_cellsMoved) (maxL := 3) (ret := (some .int)) rfl (by decide +kernel) rfl (Nat.le_of_ble_eq_true rfl) ?_
  intro p e s m args below meth c G
  obtain ⟨hs0, hs1, hs2, hs3, hs4, hs5, hs6⟩ := fSc_k hs
  have hn0 : sc < N := by omega
  have hn1 : sc + 1 < N := by omega
  have hn2 : sc + 2 < N := by omega
  refine fV_lv (lv' := [(0, .ref (Γ.1 sc)), (1, .int (i32 i))]) [0, 1] rfl ?_
  refine fV_aload_n (pc' := 1) G 0 dX0_cellsMoved_0 rfl rfl rfl ?_
  refine fV_get (K := 0) (v := .int (i32 (I sc 4))) (pc' := 4) G kfX0_cellsMoved_21 hn0 hs1 rfl rfl dX0_cellsMoved_1 rfl ?_
  refine fV_i2f (pc' := 5) G dX0_cellsMoved_4 rfl ?_
  refine fV_ldcf (v := 1120403456) (pc' := 7) G klX0_cellsMoved_75 dX0_cellsMoved_5 rfl ?_
  refine fV_fdiv (pc' := 8) G dX0_cellsMoved_7 (fpv_fin hc).2 rfl ?_
  refine fV_fstore_n (lv' := [(2, .float (FP.fdiv (FP.i2f (i32 (I sc 4))) 1120403456)), (0, .ref (Γ.1 sc)), (1, .int (i32 i))]) (pc' := 9) G dX0_cellsMoved_8 rfl (by decide) rfl rfl ?_
  refine fV_iload_n (pc' := 10) G 2 dX0_cellsMoved_9 rfl rfl rfl ?_
  refine fV_iconst (pc' := 11) G dX0_cellsMoved_10 rfl ?_
  refine fV_icmp_ge (tgt := 18) (pc' := 14) G dX0_cellsMoved_11 (by decide) rfl (by omega) (by decide) (fun c1 => ?_) (fun c1 => ?_)
  · refine fV_iload_n (pc' := 19) G 2 dX0_cellsMoved_18 rfl rfl rfl ?_
    refine fV_i2f (pc' := 20) G dX0_cellsMoved_19 rfl ?_
    refine fV_fload_n (pc' := 21) G 0 dX0_cellsMoved_20 rfl rfl rfl ?_
    refine fV_fmul (pc' := 22) G dX0_cellsMoved_21 (fmv_n hc) rfl ?_
    refine fV_f2i (pc' := 23) (a := (FP.f2i (FP.fmul (FP.i2f (i32 i)) (FP.fdiv (FP.i2f (i32 (I sc 4))) 1120403456))).toInt) G dX0_cellsMoved_22 (i32_self _).symm rfl ?_
    refine fV_iret G dX0_cellsMoved_23 ?_
    exact fE_i (by unfold sMv; first | rw [if_pos (by omega)] | rw [if_neg (by omega)])
  · refine fV_iconst (pc' := 15) G dX0_cellsMoved_14 rfl ?_
    refine fV_goto (tgt := 23) G dX0_cellsMoved_15 (by decide) ?_
    refine fV_iret G dX0_cellsMoved_23 ?_
    exact fE_i (by unfold sMv; first | rw [if_pos (by omega)] | rw [if_neg (by omega)])
set_option maxHeartbeats 4000000 in
set_option maxRecDepth 100000 in
theorem mX0_rowOf (l : Launch) (Γ : fG) {N : Nat} (hN : 214 ≤ N) (I : fM) (P : fN) {sc : Nat} (hs : fSc sc) (hv4 : 50 ≤ I sc 4 ∧ I sc 4 ≤ 400) {k : Nat} (hk : fWd k) (hw : fWv I k) (f : Int) (hf : 0 ≤ f ∧ f ≤ 4001) : fMet l yX0_rowOf wsX0_rowOf rmX0_rowOf Γ N [.ref (Γ.1 sc), .ref (Γ.1 k), .int (i32 f)] I P (fE (some (.int (i32 (sRowX (I sc 4) (I k) f)))) I P) := by
  refine fMet_of (own := RX0) (cc := cX0_rowOf) (maxL := 3) (ret := (some .int)) rfl (by decide +kernel) rfl (Nat.le_of_ble_eq_true rfl) ?_
  intro p e s m args below meth c G
  obtain ⟨hs0, hs1, hs2, hs3, hs4, hs5, hs6⟩ := fSc_k hs
  have hn0 : sc < N := by omega
  have hn1 : sc + 1 < N := by omega
  have hn2 : sc + 2 < N := by omega
  obtain ⟨hk0, hk1, hk2⟩ := id hk
  have hnk : k < N := by omega
  obtain ⟨hw1, hw2, hw3, hw4, hw5, hw6, hw7⟩ := id hw
  refine fV_lv (lv' := [(0, .ref (Γ.1 sc)), (1, .ref (Γ.1 k)), (2, .int (i32 f))]) [0, 1, 2] rfl ?_
  refine fV_aload_n (pc' := 1) G 1 dX0_rowOf_0 rfl rfl rfl ?_
  refine fV_get (K := 2) (v := .int (i32 (I k 5))) (pc' := 4) G kfX0_rowOf_64 hnk hk1 rfl rfl dX0_rowOf_1 rfl ?_
  by_cases c1 : I k 5 = 3
  · refine fV_lookup (off := 28) (tgt := 32) G dX0_rowOf_4 (by omega) rfl (by rw [c1]; rfl) (by decide) ?_
    refine fV_aload_n (pc' := 33) G 1 dX0_rowOf_32 rfl rfl rfl ?_
    refine fV_get (K := 2) (v := .int (i32 (I k 7))) (pc' := 36) G kfX0_rowOf_76 hnk hk1 rfl rfl dX0_rowOf_33 rfl ?_
    refine fV_aload_n (pc' := 37) G 0 dX0_rowOf_36 rfl rfl rfl ?_
    refine fV_aload_n (pc' := 38) G 1 dX0_rowOf_37 rfl rfl rfl ?_
    refine fV_iload_n (pc' := 39) G 2 dX0_rowOf_38 rfl rfl rfl ?_
    refine fV_callVf (st' := [.int (i32 (f + 1 - (I k 2 + I k 3 + I k 4))), .ref (Γ.1 sc), .int (i32 (I k 7))]) (n := 1) (k := k) (K := 2) (As := [.int (i32 f)]) (rest := [.ref (Γ.1 sc), .int (i32 (I k 7))]) (pc' := 42) G (mX2_stepsIn l Γ hN I P hk f) kcX0_rowOf_79 hnk hk1 rfl rfl rfl (Nat.le_of_ble_eq_true rfl) (Nat.zero_le _) (Nat.zero_le _) dX0_rowOf_39 rfl rfl ?_
    refine fV_callVf (st' := [.int (i32 (sMv (I sc 4) (f + 1 - (I k 2 + I k 3 + I k 4)))), .int (i32 (I k 7))]) (n := 1) (k := sc) (K := 0) (As := [.int (i32 (f + 1 - (I k 2 + I k 3 + I k 4)))]) (rest := [.int (i32 (I k 7))]) (pc' := 45) G (mX0_cellsMoved l Γ hN I P hs hv4 (f + 1 - (I k 2 + I k 3 + I k 4)) (by omega)) kcX0_rowOf_83 hn0 hs1 rfl rfl rfl (Nat.le_of_ble_eq_true rfl) (Nat.zero_le _) (Nat.zero_le _) dX0_rowOf_42 rfl rfl ?_
    refine fV_isub (pc' := 46) G dX0_rowOf_45 rfl ?_
    refine fV_iret G dX0_rowOf_46 ?_
    exact fE_i (by unfold sRowX; simp [*])
  by_cases c2 : I k 5 = 4
  · refine fV_lookup (off := 43) (tgt := 47) G dX0_rowOf_4 (by omega) rfl (by rw [c2]; rfl) (by decide) ?_
    refine fV_aload_n (pc' := 48) G 1 dX0_rowOf_47 rfl rfl rfl ?_
    refine fV_get (K := 2) (v := .int (i32 (I k 7))) (pc' := 51) G kfX0_rowOf_76 hnk hk1 rfl rfl dX0_rowOf_48 rfl ?_
    refine fV_aload_n (pc' := 52) G 0 dX0_rowOf_51 rfl rfl rfl ?_
    refine fV_aload_n (pc' := 53) G 1 dX0_rowOf_52 rfl rfl rfl ?_
    refine fV_iload_n (pc' := 54) G 2 dX0_rowOf_53 rfl rfl rfl ?_
    refine fV_callVf (st' := [.int (i32 (f + 1 - (I k 2 + I k 3 + I k 4))), .ref (Γ.1 sc), .int (i32 (I k 7))]) (n := 1) (k := k) (K := 2) (As := [.int (i32 f)]) (rest := [.ref (Γ.1 sc), .int (i32 (I k 7))]) (pc' := 57) G (mX2_stepsIn l Γ hN I P hk f) kcX0_rowOf_79 hnk hk1 rfl rfl rfl (Nat.le_of_ble_eq_true rfl) (Nat.zero_le _) (Nat.zero_le _) dX0_rowOf_54 rfl rfl ?_
    refine fV_callVf (st' := [.int (i32 (sMv (I sc 4) (f + 1 - (I k 2 + I k 3 + I k 4)))), .int (i32 (I k 7))]) (n := 1) (k := sc) (K := 0) (As := [.int (i32 (f + 1 - (I k 2 + I k 3 + I k 4)))]) (rest := [.int (i32 (I k 7))]) (pc' := 60) G (mX0_cellsMoved l Γ hN I P hs hv4 (f + 1 - (I k 2 + I k 3 + I k 4)) (by omega)) kcX0_rowOf_83 hn0 hs1 rfl rfl rfl (Nat.le_of_ble_eq_true rfl) (Nat.zero_le _) (Nat.zero_le _) dX0_rowOf_57 rfl rfl ?_
    refine fV_iadd (pc' := 61) G dX0_rowOf_60 rfl ?_
    refine fV_iret G dX0_rowOf_61 ?_
    exact fE_i (by unfold sRowX; simp [*])
  refine fV_lookup (off := 58) (tgt := 62) G dX0_rowOf_4 (by omega) rfl (by first | (simp [Op.lookupswitch.offset, c1, c2]; done) | (simp [Op.lookupswitch.offset]; (split <;> first | omega | (split <;> omega)))) (by decide) ?_
  refine fV_aload_n (pc' := 63) G 1 dX0_rowOf_62 rfl rfl rfl ?_
  refine fV_get (K := 2) (v := .int (i32 (I k 7))) (pc' := 66) G kfX0_rowOf_76 hnk hk1 rfl rfl dX0_rowOf_63 rfl ?_
  refine fV_iret G dX0_rowOf_66 ?_
  exact fE_i (by unfold sRowX; simp [*])
set_option maxHeartbeats 4000000 in
set_option maxRecDepth 100000 in
theorem mX0_columnOf (l : Launch) (Γ : fG) {N : Nat} (hN : 214 ≤ N) (I : fM) (P : fN) {sc : Nat} (hs : fSc sc) (hv4 : 50 ≤ I sc 4 ∧ I sc 4 ≤ 400) {k : Nat} (hk : fWd k) (hw : fWv I k) (f : Int) (hf : 0 ≤ f ∧ f ≤ 4001) : fMet l yX0_columnOf wsX0_columnOf rmX0_columnOf Γ N [.ref (Γ.1 sc), .ref (Γ.1 k), .int (i32 f)] I P (fE (some (.int (i32 (sColX (I sc 4) (I k) f)))) I P) := by
  refine fMet_of (own := RX0) (cc := cX0_columnOf) (maxL := 3) (ret := (some .int)) rfl (by decide +kernel) rfl (Nat.le_of_ble_eq_true rfl) ?_
  intro p e s m args below meth c G
  obtain ⟨hs0, hs1, hs2, hs3, hs4, hs5, hs6⟩ := fSc_k hs
  have hn0 : sc < N := by omega
  have hn1 : sc + 1 < N := by omega
  have hn2 : sc + 2 < N := by omega
  obtain ⟨hk0, hk1, hk2⟩ := id hk
  have hnk : k < N := by omega
  obtain ⟨hw1, hw2, hw3, hw4, hw5, hw6, hw7⟩ := id hw
  refine fV_lv (lv' := [(0, .ref (Γ.1 sc)), (1, .ref (Γ.1 k)), (2, .int (i32 f))]) [0, 1, 2] rfl ?_
  refine fV_aload_n (pc' := 1) G 1 dX0_columnOf_0 rfl rfl rfl ?_
  refine fV_get (K := 2) (v := .int (i32 (I k 5))) (pc' := 4) G kfX0_columnOf_64 hnk hk1 rfl rfl dX0_columnOf_1 rfl ?_
  by_cases c1 : I k 5 = 1
  · refine fV_lookup (off := 28) (tgt := 32) G dX0_columnOf_4 (by omega) rfl (by rw [c1]; rfl) (by decide) ?_
    refine fV_aload_n (pc' := 33) G 1 dX0_columnOf_32 rfl rfl rfl ?_
    refine fV_get (K := 2) (v := .int (i32 (I k 8))) (pc' := 36) G kfX0_columnOf_86 hnk hk1 rfl rfl dX0_columnOf_33 rfl ?_
    refine fV_aload_n (pc' := 37) G 0 dX0_columnOf_36 rfl rfl rfl ?_
    refine fV_aload_n (pc' := 38) G 1 dX0_columnOf_37 rfl rfl rfl ?_
    refine fV_iload_n (pc' := 39) G 2 dX0_columnOf_38 rfl rfl rfl ?_
    refine fV_callVf (st' := [.int (i32 (f + 1 - (I k 2 + I k 3 + I k 4))), .ref (Γ.1 sc), .int (i32 (I k 8))]) (n := 1) (k := k) (K := 2) (As := [.int (i32 f)]) (rest := [.ref (Γ.1 sc), .int (i32 (I k 8))]) (pc' := 42) G (mX2_stepsIn l Γ hN I P hk f) kcX0_columnOf_79 hnk hk1 rfl rfl rfl (Nat.le_of_ble_eq_true rfl) (Nat.zero_le _) (Nat.zero_le _) dX0_columnOf_39 rfl rfl ?_
    refine fV_callVf (st' := [.int (i32 (sMv (I sc 4) (f + 1 - (I k 2 + I k 3 + I k 4)))), .int (i32 (I k 8))]) (n := 1) (k := sc) (K := 0) (As := [.int (i32 (f + 1 - (I k 2 + I k 3 + I k 4)))]) (rest := [.int (i32 (I k 8))]) (pc' := 45) G (mX0_cellsMoved l Γ hN I P hs hv4 (f + 1 - (I k 2 + I k 3 + I k 4)) (by omega)) kcX0_columnOf_83 hn0 hs1 rfl rfl rfl (Nat.le_of_ble_eq_true rfl) (Nat.zero_le _) (Nat.zero_le _) dX0_columnOf_42 rfl rfl ?_
    refine fV_isub (pc' := 46) G dX0_columnOf_45 rfl ?_
    refine fV_iret G dX0_columnOf_46 ?_
    exact fE_i (by unfold sColX; simp [*])
  by_cases c2 : I k 5 = 2
  · refine fV_lookup (off := 43) (tgt := 47) G dX0_columnOf_4 (by omega) rfl (by rw [c2]; rfl) (by decide) ?_
    refine fV_aload_n (pc' := 48) G 1 dX0_columnOf_47 rfl rfl rfl ?_
    refine fV_get (K := 2) (v := .int (i32 (I k 8))) (pc' := 51) G kfX0_columnOf_86 hnk hk1 rfl rfl dX0_columnOf_48 rfl ?_
    refine fV_aload_n (pc' := 52) G 0 dX0_columnOf_51 rfl rfl rfl ?_
    refine fV_aload_n (pc' := 53) G 1 dX0_columnOf_52 rfl rfl rfl ?_
    refine fV_iload_n (pc' := 54) G 2 dX0_columnOf_53 rfl rfl rfl ?_
    refine fV_callVf (st' := [.int (i32 (f + 1 - (I k 2 + I k 3 + I k 4))), .ref (Γ.1 sc), .int (i32 (I k 8))]) (n := 1) (k := k) (K := 2) (As := [.int (i32 f)]) (rest := [.ref (Γ.1 sc), .int (i32 (I k 8))]) (pc' := 57) G (mX2_stepsIn l Γ hN I P hk f) kcX0_columnOf_79 hnk hk1 rfl rfl rfl (Nat.le_of_ble_eq_true rfl) (Nat.zero_le _) (Nat.zero_le _) dX0_columnOf_54 rfl rfl ?_
    refine fV_callVf (st' := [.int (i32 (sMv (I sc 4) (f + 1 - (I k 2 + I k 3 + I k 4)))), .int (i32 (I k 8))]) (n := 1) (k := sc) (K := 0) (As := [.int (i32 (f + 1 - (I k 2 + I k 3 + I k 4)))]) (rest := [.int (i32 (I k 8))]) (pc' := 60) G (mX0_cellsMoved l Γ hN I P hs hv4 (f + 1 - (I k 2 + I k 3 + I k 4)) (by omega)) kcX0_columnOf_83 hn0 hs1 rfl rfl rfl (Nat.le_of_ble_eq_true rfl) (Nat.zero_le _) (Nat.zero_le _) dX0_columnOf_57 rfl rfl ?_
    refine fV_iadd (pc' := 61) G dX0_columnOf_60 rfl ?_
    refine fV_iret G dX0_columnOf_61 ?_
    exact fE_i (by unfold sColX; simp [*])
  refine fV_lookup (off := 58) (tgt := 62) G dX0_columnOf_4 (by omega) rfl (by first | (simp [Op.lookupswitch.offset, c1, c2]; done) | (simp [Op.lookupswitch.offset]; (split <;> first | omega | (split <;> omega)))) (by decide) ?_
  refine fV_aload_n (pc' := 63) G 1 dX0_columnOf_62 rfl rfl rfl ?_
  refine fV_get (K := 2) (v := .int (i32 (I k 8))) (pc' := 66) G kfX0_columnOf_86 hnk hk1 rfl rfl dX0_columnOf_63 rfl ?_
  refine fV_iret G dX0_columnOf_66 ?_
  exact fE_i (by unfold sColX; simp [*])
set_option maxHeartbeats 4000000 in
set_option maxRecDepth 100000 in
theorem mX0_stepsToLeave (l : Launch) (Γ : fG) {N : Nat} (hN : 214 ≤ N) (I : fM) (P : fN) {sc : Nat} (hs : fSc sc) (hv4 : 50 ≤ I sc 4 ∧ I sc 4 ≤ 400) {k : Nat} (hk : fWd k) (hw : fWv I k) (hput : I k 6 = 1) : fMet l yX0_stepsToLeave wsX0_stepsToLeave rmX0_stepsToLeave Γ N [.ref (Γ.1 sc), .ref (Γ.1 k)] I P (fE (some (.int (i32 (sStl (I sc 4) (sLeave I k))))) I P) := by
  refine fMet_of (own := RX0) (cc := cX0_stepsToLeave) (maxL := 4) (ret := (some .int)) rfl (by decide +kernel) rfl (Nat.le_of_ble_eq_true rfl) ?_
  intro p e s m args below meth c G
  obtain ⟨hs0, hs1, hs2, hs3, hs4, hs5, hs6⟩ := fSc_k hs
  have hn0 : sc < N := by omega
  have hn1 : sc + 1 < N := by omega
  have hn2 : sc + 2 < N := by omega
  obtain ⟨hk0, hk1, hk2⟩ := id hk
  have hnk : k < N := by omega
  obtain ⟨hw1, hw2, hw3, hw4, hw5, hw6, hw7⟩ := id hw
  have hlv : 0 ≤ sLeave I k ∧ sLeave I k ≤ 100 := by unfold sLeave; (split <;> first | omega | (split <;> first | omega | (split <;> omega)))
  have hmv : ∀ i : Int, -2147483648 ≤ sMv (I sc 4) i ∧ sMv (I sc 4) i ≤ 2147483647 := fun i => sMv_r _ i
  have hR := sF_is (c := fun i => sLeave I k ≤ sMv (I sc 4) i) (a := 1) (b := 80) (by omega)
  obtain ⟨r, hre⟩ : ∃ r, r = sStl (I sc 4) (sLeave I k) := ⟨_, rfl⟩
  rw [show sF (fun i => sLeave I k ≤ sMv (I sc 4) i) 1 80 = r from hre.symm] at hR
  refine fV_lv (lv' := [(0, .ref (Γ.1 sc)), (1, .ref (Γ.1 k))]) [0, 1] rfl ?_
  refine fV_aload_n (pc' := 1) G 1 dX0_stepsToLeave_0 rfl rfl rfl ?_
  refine fV_callVf (st' := [.int (i32 (sLeave I k))]) (n := 0) (k := k) (K := 2) (As := []) (rest := []) (pc' := 4) G (mX2_cellsToLeave l Γ hN I P hk (by have := hw; exact this.2.2.2.2.1)) kcX0_stepsToLeave_103 hnk hk1 rfl rfl rfl (Nat.le_of_ble_eq_true rfl) (Nat.zero_le _) (Nat.zero_le _) dX0_stepsToLeave_1 rfl rfl ?_
  refine fV_istore_n (lv' := [(2, .int (i32 (sLeave I k))), (0, .ref (Γ.1 sc)), (1, .ref (Γ.1 k))]) (pc' := 5) G dX0_stepsToLeave_4 rfl (by decide) rfl rfl ?_
  refine fV_iconst (pc' := 6) G dX0_stepsToLeave_5 rfl ?_
  refine fV_istore_n (lv' := [(3, .int (i32 1)), (2, .int (i32 (sLeave I k))), (0, .ref (Γ.1 sc)), (1, .ref (Γ.1 k))]) (pc' := 7) G dX0_stepsToLeave_6 rfl (by decide) rfl rfl ?_
  have lp : ∀ (z : Nat) (i : Int), 1 ≤ i ∧ i ≤ 80 → i ≤ r → ((80 - i).toNat) = z → fV p l e rmX0_stepsToLeave s m args below meth c (MQ below (fQ Γ N (fE (some (.int (i32 (sStl (I sc 4) (sLeave I k))))) I P)) args s 0 0 (fA Γ N)) (fA Γ N) Γ N 4 0 0 I P 7 [(0, .ref (Γ.1 sc)), (1, .ref (Γ.1 k)), (2, .int (i32 (sLeave I k))), (3, .int (i32 i))] [] := by
    intro z
    induction z using Nat.strongRecOn with
    | _ z ih_lp =>
      intro i hi hr hz_lp
      refine fV_iload_n (pc' := 8) G 3 dX0_stepsToLeave_7 rfl rfl rfl ?_
      refine fV_bipush (n := 80) (pc' := 10) G dX0_stepsToLeave_8 rfl rfl ?_
      refine fV_icmp_ge (tgt := 30) (pc' := 13) G dX0_stepsToLeave_10 (by decide) rfl (by first | omega | exact hmv _) (by decide) (fun c101 => ?_) (fun c101 => ?_)
      · refine fV_bipush (n := 80) (pc' := 32) G dX0_stepsToLeave_30 rfl rfl ?_
        refine fV_iret G dX0_stepsToLeave_32 ?_
        exact fE_i (by rw [← hre]; first | (have := isF_end hR hr (by omega); omega) | (have := isF_hit hR (by omega) hr (by (try dsimp only); omega); omega))
      · refine fV_aload_n (pc' := 14) G 0 dX0_stepsToLeave_13 rfl rfl rfl ?_
        refine fV_iload_n (pc' := 15) G 3 dX0_stepsToLeave_14 rfl rfl rfl ?_
        refine fV_callVf (st' := [.int (i32 (sMv (I sc 4) i))]) (n := 1) (k := sc) (K := 0) (As := [.int (i32 i)]) (rest := []) (pc' := 18) G (mX0_cellsMoved l Γ hN I P hs hv4 i (by omega)) kcX0_stepsToLeave_83 hn0 hs1 rfl rfl rfl (Nat.le_of_ble_eq_true rfl) (Nat.zero_le _) (Nat.zero_le _) dX0_stepsToLeave_15 rfl rfl ?_
        refine fV_iload_n (pc' := 19) G 2 dX0_stepsToLeave_18 rfl rfl rfl ?_
        refine fV_icmp_lt (tgt := 24) (pc' := 22) G dX0_stepsToLeave_19 (by decide) rfl (by first | omega | exact hmv _) (by first | omega | exact hmv _) (fun c102 => ?_) (fun c102 => ?_)
        · refine fV_iinc (lv' := [(3, .int (i32 (i + 1))), (0, .ref (Γ.1 sc)), (1, .ref (Γ.1 k)), (2, .int (i32 (sLeave I k)))]) (pc' := 27) G 3 dX0_stepsToLeave_24 rfl (by decide) rfl rfl ?_
          refine fV_goto (tgt := 7) G dX0_stepsToLeave_27 (by decide) ?_
          refine fV_lv (lv' := [(0, .ref (Γ.1 sc)), (1, .ref (Γ.1 k)), (2, .int (i32 (sLeave I k))), (3, .int (i32 (i + 1)))]) [1, 2, 3, 0] rfl ?_
          exact ih_lp _ (by omega) (i + 1) (by omega) (isF_step hR hr (by omega) (by (try dsimp only); omega)) rfl
        · refine fV_iload_n (pc' := 23) G 3 dX0_stepsToLeave_22 rfl rfl rfl ?_
          refine fV_iret G dX0_stepsToLeave_23 ?_
          exact fE_i (by rw [← hre]; first | (have := isF_end hR hr (by omega); omega) | (have := isF_hit hR (by omega) hr (by (try dsimp only); omega); omega))
  refine fV_lv (lv' := [(0, .ref (Γ.1 sc)), (1, .ref (Γ.1 k)), (2, .int (i32 (sLeave I k))), (3, .int (i32 1))]) [2, 3, 1, 0] rfl ?_
  exact lp _ 1 (by omega) (hR.1.1) rfl
set_option maxHeartbeats 4000000 in
set_option maxRecDepth 100000 in
theorem mX0_goneFrom (l : Launch) (Γ : fG) {N : Nat} (hN : 214 ≤ N) (I : fM) (P : fN) {sc : Nat} (hs : fSc sc) (hv : fSv I sc) {k : Nat} (hk : fWd k) (hw : fWv I k) (hput : I k 6 = 1) : fMet l yX0_goneFrom wsX0_goneFrom rmX0_goneFrom Γ N [.ref (Γ.1 sc), .ref (Γ.1 k)] I P (fE (some (.int (i32 (sGone (I sc 4) (I sc 3) (I (sc + 2)) (I k))))) I P) := by
  refine fMet_of (own := RX0) (cc := cX0_goneFrom) (maxL := 4) (ret := (some .int)) rfl (by decide +kernel) rfl (Nat.le_of_ble_eq_true rfl) ?_
  intro p e s m args below meth c G
  obtain ⟨hs0, hs1, hs2, hs3, hs4, hs5, hs6⟩ := fSc_k hs
  have hn0 : sc < N := by omega
  have hn1 : sc + 1 < N := by omega
  have hn2 : sc + 2 < N := by omega
  obtain ⟨hv1, hv3, hv4, hvs⟩ := id hv
  obtain ⟨hk0, hk1, hk2⟩ := id hk
  have hnk : k < N := by omega
  obtain ⟨hw1, hw2, hw3, hw4, hw5, hw6, hw7⟩ := id hw
  have hlr : sLeave I k = sLeaveR (I k) := rfl
  have hstl := (sF_is (c := fun i => sLeave I k ≤ sMv (I sc 4) i) (a := 1) (b := 80) (by omega)).1
  rw [show sF (fun i => sLeave I k ≤ sMv (I sc 4) i) 1 80 = sStl (I sc 4) (sLeave I k) from rfl] at hstl
  have hR := sF_is (c := fun i => I k 2 < I (sc + 2) i) (a := 0) (b := I sc 3) (by omega)
  obtain ⟨r, hre⟩ : ∃ r, r = sF (fun i => I k 2 < I (sc + 2) i) 0 (I sc 3) := ⟨_, rfl⟩
  rw [← hre] at hR
  have hsh : ∀ i : Int, 0 ≤ i → i < I sc 3 → -2147483648 ≤ I (sc + 2) i ∧ I (sc + 2) i ≤ 2147483647 := fun i q1 q2 => by have := hvs i q1 q2; omega
  obtain ⟨b, hb⟩ : ∃ b : Int, b = I k 2 + I k 3 + I k 4 + (if I k 5 = 0 then 0 else sStl (I sc 4) (sLeave I k) - 1) := ⟨_, rfl⟩
  have hbb : 0 ≤ b ∧ b ≤ 5000 := by rw [hb]; split <;> omega
  have lpb : fV p l e rmX0_goneFrom s m args below meth c (MQ below (fQ Γ N (fE (some (.int (i32 (sGone (I sc 4) (I sc 3) (I (sc + 2)) (I k))))) I P)) args s 0 0 (fA Γ N)) (fA Γ N) Γ N 4 0 0 I P 24 [(0, .ref (Γ.1 sc)), (1, .ref (Γ.1 k)), (2, .int (i32 b)), (3, .int (i32 0))] [] := by
    have lp : ∀ (z : Nat) (i : Int), 0 ≤ i ∧ i ≤ I sc 3 → i ≤ r → ((I sc 3 - i).toNat) = z → fV p l e rmX0_goneFrom s m args below meth c (MQ below (fQ Γ N (fE (some (.int (i32 (sGone (I sc 4) (I sc 3) (I (sc + 2)) (I k))))) I P)) args s 0 0 (fA Γ N)) (fA Γ N) Γ N 4 0 0 I P 24 [(0, .ref (Γ.1 sc)), (1, .ref (Γ.1 k)), (2, .int (i32 b)), (3, .int (i32 i))] [] := by
      intro z
      induction z using Nat.strongRecOn with
      | _ z ih_lp =>
        intro i hi hr hz_lp
        refine fV_iload_n (pc' := 25) G 3 dX0_goneFrom_24 rfl rfl rfl ?_
        refine fV_aload_n (pc' := 26) G 0 dX0_goneFrom_25 rfl rfl rfl ?_
        refine fV_get (K := 0) (v := .int (i32 (I sc 3))) (pc' := 29) G kfX0_goneFrom_46 hn0 hs1 rfl rfl dX0_goneFrom_26 rfl ?_
        refine fV_icmp_ge (tgt := 62) (pc' := 32) G dX0_goneFrom_29 (by decide) rfl (by first | omega | exact hsh _ (by omega) (by omega)) (by first | omega | exact hsh _ (by omega) (by omega)) (fun c101 => ?_) (fun c101 => ?_)
        · refine fV_iload_n (pc' := 63) G 2 dX0_goneFrom_62 rfl rfl rfl ?_
          refine fV_iret G dX0_goneFrom_63 ?_
          exact fE_i (by unfold sGone; rw [← hre, ← hlr, ← hb]; first | (have := isF_end hR hr (by omega); rw [if_neg (by omega)]) | (have e := isF_hit hR (by omega) hr (by (try dsimp only); omega); rw [e, if_pos (by omega)]))
        · refine fV_aload_n (pc' := 33) G 0 dX0_goneFrom_32 rfl rfl rfl ?_
          refine fV_get (K := 0) (v := .ref (Γ.1 (sc + 2))) (pc' := 36) G kfX0_goneFrom_17 hn0 hs1 rfl rfl dX0_goneFrom_33 rfl ?_
          refine fV_iload_n (pc' := 37) G 3 dX0_goneFrom_36 rfl rfl rfl ?_
          refine fV_iald (K := 6) (n := 10) (pc' := 38) G hn2 hs3 (fun _ _ => rfl) (by decide) (by first | omega | exact hsh _ (by omega) (by omega)) dX0_goneFrom_37 rfl ?_
          refine fV_aload_n (pc' := 39) G 1 dX0_goneFrom_38 rfl rfl rfl ?_
          refine fV_get (K := 2) (v := .int (i32 (I k 2))) (pc' := 42) G kfX0_goneFrom_55 hnk hk1 rfl rfl dX0_goneFrom_39 rfl ?_
          refine fV_icmp_le (tgt := 56) (pc' := 45) G dX0_goneFrom_42 (by decide) rfl (by first | omega | exact hsh _ (by omega) (by omega)) (by first | omega | exact hsh _ (by omega) (by omega)) (fun c102 => ?_) (fun c102 => ?_)
          · refine fV_iinc (lv' := [(3, .int (i32 (i + 1))), (0, .ref (Γ.1 sc)), (1, .ref (Γ.1 k)), (2, .int (i32 b))]) (pc' := 59) G 3 dX0_goneFrom_56 rfl (by decide) rfl rfl ?_
            refine fV_goto (tgt := 24) G dX0_goneFrom_59 (by decide) ?_
            refine fV_lv (lv' := [(0, .ref (Γ.1 sc)), (1, .ref (Γ.1 k)), (2, .int (i32 b)), (3, .int (i32 (i + 1)))]) [1, 2, 3, 0] rfl ?_
            exact ih_lp _ (by omega) (i + 1) (by omega) (isF_step hR hr (by omega) (by (try dsimp only); omega)) rfl
          · refine fV_iload_n (pc' := 46) G 2 dX0_goneFrom_45 rfl rfl rfl ?_
            refine fV_aload_n (pc' := 47) G 0 dX0_goneFrom_46 rfl rfl rfl ?_
            refine fV_get (K := 0) (v := .ref (Γ.1 (sc + 2))) (pc' := 50) G kfX0_goneFrom_17 hn0 hs1 rfl rfl dX0_goneFrom_47 rfl ?_
            refine fV_iload_n (pc' := 51) G 3 dX0_goneFrom_50 rfl rfl rfl ?_
            refine fV_iald (K := 6) (n := 10) (pc' := 52) G hn2 hs3 (fun _ _ => rfl) (by decide) (by first | omega | exact hsh _ (by omega) (by omega)) dX0_goneFrom_51 rfl ?_
            refine fV_mmin (pc' := 55) G kcX0_goneFrom_97 ⟨Nat.le_of_ble_eq_true rfl, Nat.le_of_ble_eq_true rfl⟩ (Nat.zero_le _) (Nat.zero_le _) (by first | omega | exact hsh _ (by omega) (by omega)) (by first | omega | exact hsh _ (by omega) (by omega)) dX0_goneFrom_52 rfl ?_
            refine fV_iret G dX0_goneFrom_55 ?_
            exact fE_i (by unfold sGone; rw [← hre, ← hlr, ← hb]; first | (have := isF_end hR hr (by omega); rw [if_neg (by omega)]) | (have e := isF_hit hR (by omega) hr (by (try dsimp only); omega); rw [e, if_pos (by omega)]))
    refine fV_lv (lv' := [(0, .ref (Γ.1 sc)), (1, .ref (Γ.1 k)), (2, .int (i32 b)), (3, .int (i32 0))]) [0, 1, 2, 3] rfl ?_
    exact lp _ 0 (by omega) (hR.1.1) rfl
  refine fV_lv (lv' := [(0, .ref (Γ.1 sc)), (1, .ref (Γ.1 k))]) [0, 1] rfl ?_
  refine fV_aload_n (pc' := 1) G 1 dX0_goneFrom_0 rfl rfl rfl ?_
  refine fV_callVf (st' := [.int (i32 (I k 2 + I k 3 + I k 4))]) (n := 0) (k := k) (K := 2) (As := []) (rest := []) (pc' := 4) G (mX2_leavesIn l Γ hN I P hk) kcX0_goneFrom_89 hnk hk1 rfl rfl rfl (Nat.le_of_ble_eq_true rfl) (Nat.zero_le _) (Nat.zero_le _) dX0_goneFrom_1 rfl rfl ?_
  refine fV_istore_n (lv' := [(2, .int (i32 (I k 2 + I k 3 + I k 4))), (0, .ref (Γ.1 sc)), (1, .ref (Γ.1 k))]) (pc' := 5) G dX0_goneFrom_4 rfl (by decide) rfl rfl ?_
  refine fV_aload_n (pc' := 6) G 2 dX0_goneFrom_5 rfl rfl rfl ?_
  refine fV_get (K := 2) (v := .int (i32 (I k 5))) (pc' := 9) G kfX0_goneFrom_64 hnk hk1 rfl rfl dX0_goneFrom_6 rfl ?_
  refine fV_if_eq (tgt := 22) (pc' := 12) G dX0_goneFrom_9 (by decide) rfl (by first | omega | exact hsh _ (by omega) (by omega)) (fun c1 => ?_) (fun c1 => ?_)
  · refine fV_iconst (pc' := 23) G dX0_goneFrom_22 rfl ?_
    refine fV_istore_n (lv' := [(3, .int (i32 0)), (2, .int (i32 (I k 2 + I k 3 + I k 4))), (0, .ref (Γ.1 sc)), (1, .ref (Γ.1 k))]) (pc' := 24) G dX0_goneFrom_23 rfl (by decide) rfl rfl ?_
    have hbe : I k 2 + I k 3 + I k 4 = b := by rw [hb]; first | (rw [if_pos c1]; omega) | (rw [if_neg c1])
    refine fV_lv (lv' := [(0, .ref (Γ.1 sc)), (1, .ref (Γ.1 k)), (2, .int (i32 b)), (3, .int (i32 0))]) [2, 3, 1, 0] (by rw [← hbe]; rfl) ?_
    exact lpb
  · refine fV_iload_n (pc' := 13) G 0 dX0_goneFrom_12 rfl rfl rfl ?_
    refine fV_aload_n (pc' := 14) G 1 dX0_goneFrom_13 rfl rfl rfl ?_
    refine fV_aload_n (pc' := 15) G 2 dX0_goneFrom_14 rfl rfl rfl ?_
    refine fV_callVf (st' := [.int (i32 (sStl (I sc 4) (sLeave I k))), .int (i32 (I k 2 + I k 3 + I k 4))]) (n := 1) (k := sc) (K := 0) (As := [.ref (Γ.1 k)]) (rest := [.int (i32 (I k 2 + I k 3 + I k 4))]) (pc' := 18) G (mX0_stepsToLeave l Γ hN I P hs hv4 hk hw hput) kcX0_goneFrom_93 hn0 hs1 rfl rfl rfl (Nat.le_of_ble_eq_true rfl) (Nat.zero_le _) (Nat.zero_le _) dX0_goneFrom_15 rfl rfl ?_
    refine fV_iconst (pc' := 19) G dX0_goneFrom_18 rfl ?_
    refine fV_isub (pc' := 20) G dX0_goneFrom_19 rfl ?_
    refine fV_iadd (pc' := 21) G dX0_goneFrom_20 rfl ?_
    refine fV_istore_n (lv' := [(2, .int (i32 ((I k 2 + I k 3 + I k 4) + ((sStl (I sc 4) (sLeave I k)) - 1)))), (0, .ref (Γ.1 sc)), (1, .ref (Γ.1 k))]) (pc' := 22) G dX0_goneFrom_21 rfl (by decide) rfl rfl ?_
    refine fV_iconst (pc' := 23) G dX0_goneFrom_22 rfl ?_
    refine fV_istore_n (lv' := [(3, .int (i32 0)), (2, .int (i32 ((I k 2 + I k 3 + I k 4) + ((sStl (I sc 4) (sLeave I k)) - 1)))), (0, .ref (Γ.1 sc)), (1, .ref (Γ.1 k))]) (pc' := 24) G dX0_goneFrom_23 rfl (by decide) rfl rfl ?_
    have hbe : (I k 2 + I k 3 + I k 4) + ((sStl (I sc 4) (sLeave I k)) - 1) = b := by rw [hb]; first | (rw [if_pos c1]; omega) | (rw [if_neg c1])
    refine fV_lv (lv' := [(0, .ref (Γ.1 sc)), (1, .ref (Γ.1 k)), (2, .int (i32 b)), (3, .int (i32 0))]) [2, 3, 1, 0] (by rw [← hbe]; rfl) ?_
    exact lpb
set_option maxHeartbeats 4000000 in
set_option maxRecDepth 100000 in
theorem mX0_isVisible (l : Launch) (Γ : fG) {N : Nat} (hN : 214 ≤ N) (I : fM) (P : fN) {sc : Nat} (hs : fSc sc) (hv : fSv I sc) {k : Nat} (hk : fWd k) (hw : fWv I k) (f : Int) (hf : 0 ≤ f ∧ f ≤ 4001) : fMet l yX0_isVisible wsX0_isVisible rmX0_isVisible Γ N [.ref (Γ.1 sc), .ref (Γ.1 k), .int (i32 f)] I P (fE (some (.int (i32 (fB (decide (sVis (I sc 4) (I sc 3) (I (sc + 2)) (I k) f)))))) I P) := by
  refine fMet_of (own := RX0) (cc := cX0_isVisible) (maxL := 3) (ret := (some .boolean)) rfl (by decide +kernel) rfl (Nat.le_of_ble_eq_true rfl) ?_
  intro p e s m args below meth c G
  obtain ⟨hs0, hs1, hs2, hs3, hs4, hs5, hs6⟩ := fSc_k hs
  have hn0 : sc < N := by omega
  have hn1 : sc + 1 < N := by omega
  have hn2 : sc + 2 < N := by omega
  obtain ⟨hv1, hv3, hv4, hvs⟩ := id hv
  obtain ⟨hk0, hk1, hk2⟩ := id hk
  have hnk : k < N := by omega
  obtain ⟨hw1, hw2, hw3, hw4, hw5, hw6, hw7⟩ := id hw
  refine fV_lv (lv' := [(0, .ref (Γ.1 sc)), (1, .ref (Γ.1 k)), (2, .int (i32 f))]) [0, 1, 2] rfl ?_
  refine fV_aload_n (pc' := 1) G 1 dX0_isVisible_0 rfl rfl rfl ?_
  refine fV_get (K := 2) (v := .int (i32 (I k 6))) (pc' := 4) G kfX0_isVisible_67 hnk hk1 rfl rfl dX0_isVisible_1 rfl ?_
  refine fV_if_eq (tgt := 28) (pc' := 7) G dX0_isVisible_4 (by decide) rfl (by omega) (fun c1 => ?_) (fun c1 => ?_)
  · refine fV_iconst (pc' := 29) G dX0_isVisible_28 rfl ?_
    refine fV_zret (b := false) G dX0_isVisible_29 ?_
    exact fE_b (by unfold sVis; simp; omega)
  · refine fV_iload_n (pc' := 8) G 2 dX0_isVisible_7 rfl rfl rfl ?_
    refine fV_aload_n (pc' := 9) G 1 dX0_isVisible_8 rfl rfl rfl ?_
    refine fV_get (K := 2) (v := .int (i32 (I k 2))) (pc' := 12) G kfX0_isVisible_55 hnk hk1 rfl rfl dX0_isVisible_9 rfl ?_
    refine fV_icmp_lt (tgt := 28) (pc' := 15) G dX0_isVisible_12 (by decide) rfl (by omega) (by omega) (fun c2 => ?_) (fun c2 => ?_)
    · refine fV_iconst (pc' := 29) G dX0_isVisible_28 rfl ?_
      refine fV_zret (b := false) G dX0_isVisible_29 ?_
      exact fE_b (by unfold sVis; simp; omega)
    · refine fV_iload_n (pc' := 16) G 2 dX0_isVisible_15 rfl rfl rfl ?_
      refine fV_aload_n (pc' := 17) G 0 dX0_isVisible_16 rfl rfl rfl ?_
      refine fV_aload_n (pc' := 18) G 1 dX0_isVisible_17 rfl rfl rfl ?_
      have hput : I k 6 = 1 := by omega
      have hgb := sGone_b hv hw hput
      refine fV_callVf (st' := [.int (i32 (sGone (I sc 4) (I sc 3) (I (sc + 2)) (I k))), .int (i32 f)]) (n := 1) (k := sc) (K := 0) (As := [.ref (Γ.1 k)]) (rest := [.int (i32 f)]) (pc' := 21) G (mX0_goneFrom l Γ hN I P hs hv hk hw hput) kcX0_isVisible_106 hn0 hs1 rfl rfl rfl (Nat.le_of_ble_eq_true rfl) (Nat.zero_le _) (Nat.zero_le _) dX0_isVisible_18 rfl rfl ?_
      refine fV_icmp_ge (tgt := 28) (pc' := 24) G dX0_isVisible_21 (by decide) rfl (by omega) (by omega) (fun c3 => ?_) (fun c3 => ?_)
      · refine fV_iconst (pc' := 29) G dX0_isVisible_28 rfl ?_
        refine fV_zret (b := false) G dX0_isVisible_29 ?_
        exact fE_b (by unfold sVis; simp; omega)
      · refine fV_iconst (pc' := 25) G dX0_isVisible_24 rfl ?_
        refine fV_goto (tgt := 29) G dX0_isVisible_25 (by decide) ?_
        refine fV_zret (b := true) G dX0_isVisible_29 ?_
        exact fE_b (by unfold sVis; simp; omega)
set_option maxHeartbeats 4000000 in
set_option maxRecDepth 100000 in
theorem mX0_shareCell (l : Launch) (Γ : fG) {N : Nat} (hN : 214 ≤ N) (I : fM) (P : fN) {sc : Nat} (hs : fSc sc) (hv4 : 50 ≤ I sc 4 ∧ I sc 4 ≤ 400) {k : Nat} (hk : fWd k) (hw : fWv I k) {k2 : Nat} (hj : fWd k2) (hx : fWv I k2) (f : Int) (hf : 0 ≤ f ∧ f ≤ 4001) (hput : I k 6 = 1) (hput2 : I k2 6 = 1) : fMet l yX0_shareCell wsX0_shareCell rmX0_shareCell Γ N [.ref (Γ.1 sc), .ref (Γ.1 k), .ref (Γ.1 k2), .int (i32 f)] I P (fE (some (.int (i32 (fB (decide (sShare (I sc 4) (I k) (I k2) f)))))) I P) := by
  refine fMet_of (own := RX0) (cc := cX0_shareCell) (maxL := 8) (ret := (some .boolean)) rfl (by decide +kernel) rfl (Nat.le_of_ble_eq_true rfl) ?_
  intro p e s m args below meth c G
  obtain ⟨hs0, hs1, hs2, hs3, hs4, hs5, hs6⟩ := fSc_k hs
  have hn0 : sc < N := by omega
  have hn1 : sc + 1 < N := by omega
  have hn2 : sc + 2 < N := by omega
  obtain ⟨hk0, hk1, hk2⟩ := id hk
  have hnk : k < N := by omega
  obtain ⟨hw1, hw2, hw3, hw4, hw5, hw6, hw7⟩ := id hw
  obtain ⟨hj0, hj1, hj2⟩ := id hj
  obtain ⟨hx1, hx2, hx3, hx4, hx5, hx6, hx7⟩ := id hx
  have hrr := sRowX_b hv4 hw hf hput
  have hcr := sColX_b hv4 hw hf hput
  have hrx := sRowX_b hv4 hx hf hput2
  have hcx := sColX_b hv4 hx hf hput2
  refine fV_lv (lv' := [(0, .ref (Γ.1 sc)), (1, .ref (Γ.1 k)), (2, .ref (Γ.1 k2)), (3, .int (i32 f))]) [0, 1, 2, 3] rfl ?_
  refine fV_aload_n (pc' := 1) G 0 dX0_shareCell_0 rfl rfl rfl ?_
  refine fV_aload_n (pc' := 2) G 1 dX0_shareCell_1 rfl rfl rfl ?_
  refine fV_iload_n (pc' := 3) G 3 dX0_shareCell_2 rfl rfl rfl ?_
  refine fV_callVf (st' := [.int (i32 (sRowX (I sc 4) (I k) f))]) (n := 2) (k := sc) (K := 0) (As := [.ref (Γ.1 k), .int (i32 f)]) (rest := []) (pc' := 6) G (mX0_rowOf l Γ hN I P hs hv4 hk hw f (by omega)) kcX0_shareCell_113 hn0 hs1 rfl rfl rfl (Nat.le_of_ble_eq_true rfl) (Nat.zero_le _) (Nat.zero_le _) dX0_shareCell_3 rfl rfl ?_
  refine fV_aload_n (pc' := 7) G 0 dX0_shareCell_6 rfl rfl rfl ?_
  refine fV_aload_n (pc' := 8) G 2 dX0_shareCell_7 rfl rfl rfl ?_
  refine fV_iload_n (pc' := 9) G 3 dX0_shareCell_8 rfl rfl rfl ?_
  refine fV_callVf (st' := [.int (i32 (sRowX (I sc 4) (I k2) f)), .int (i32 (sRowX (I sc 4) (I k) f))]) (n := 2) (k := sc) (K := 0) (As := [.ref (Γ.1 k2), .int (i32 f)]) (rest := [.int (i32 (sRowX (I sc 4) (I k) f))]) (pc' := 12) G (mX0_rowOf l Γ hN I P hs hv4 hj hx f (by omega)) kcX0_shareCell_113 hn0 hs1 rfl rfl rfl (Nat.le_of_ble_eq_true rfl) (Nat.zero_le _) (Nat.zero_le _) dX0_shareCell_9 rfl rfl ?_
  refine fV_icmp_eq (tgt := 17) (pc' := 15) G dX0_shareCell_12 (by decide) rfl (by omega) (by omega) (fun c1 => ?_) (fun c1 => ?_)
  · refine fV_aload_n (pc' := 18) G 0 dX0_shareCell_17 rfl rfl rfl ?_
    refine fV_aload_n (pc' := 19) G 1 dX0_shareCell_18 rfl rfl rfl ?_
    refine fV_iload_n (pc' := 20) G 3 dX0_shareCell_19 rfl rfl rfl ?_
    refine fV_callVf (st' := [.int (i32 (sColX (I sc 4) (I k) f))]) (n := 2) (k := sc) (K := 0) (As := [.ref (Γ.1 k), .int (i32 f)]) (rest := []) (pc' := 23) G (mX0_columnOf l Γ hN I P hs hv4 hk hw f (by omega)) kcX0_shareCell_117 hn0 hs1 rfl rfl rfl (Nat.le_of_ble_eq_true rfl) (Nat.zero_le _) (Nat.zero_le _) dX0_shareCell_20 rfl rfl ?_
    refine fV_istore (lv' := [(4, .int (i32 (sColX (I sc 4) (I k) f))), (0, .ref (Γ.1 sc)), (1, .ref (Γ.1 k)), (2, .ref (Γ.1 k2)), (3, .int (i32 f))]) (pc' := 25) G dX0_shareCell_23 (by decide) rfl rfl ?_
    refine fV_aload_n (pc' := 26) G 1 dX0_shareCell_25 rfl rfl rfl ?_
    refine fV_aload_n (pc' := 27) G 3 dX0_shareCell_26 rfl rfl rfl ?_
    refine fV_iload_n (pc' := 28) G 4 dX0_shareCell_27 rfl rfl rfl ?_
    refine fV_callVf (st' := [.int (i32 (sColX (I sc 4) (I k2) f))]) (n := 2) (k := sc) (K := 0) (As := [.ref (Γ.1 k2), .int (i32 f)]) (rest := []) (pc' := 31) G (mX0_columnOf l Γ hN I P hs hv4 hj hx f (by omega)) kcX0_shareCell_117 hn0 hs1 rfl rfl rfl (Nat.le_of_ble_eq_true rfl) (Nat.zero_le _) (Nat.zero_le _) dX0_shareCell_28 rfl rfl ?_
    refine fV_istore (lv' := [(5, .int (i32 (sColX (I sc 4) (I k2) f))), (4, .int (i32 (sColX (I sc 4) (I k) f))), (0, .ref (Γ.1 sc)), (1, .ref (Γ.1 k)), (2, .ref (Γ.1 k2)), (3, .int (i32 f))]) (pc' := 33) G dX0_shareCell_31 (by decide) rfl rfl ?_
    refine fV_iconst (pc' := 34) G dX0_shareCell_33 rfl ?_
    refine fV_iload (pc' := 36) G 1 dX0_shareCell_34 rfl rfl ?_
    refine fV_iload (pc' := 38) G 0 dX0_shareCell_36 rfl rfl ?_
    refine fV_mmax (pc' := 41) G kcX0_shareCell_120 ⟨Nat.le_of_ble_eq_true rfl, Nat.le_of_ble_eq_true rfl⟩ (Nat.zero_le _) (Nat.zero_le _) (by omega) (by omega) dX0_shareCell_38 rfl ?_
    refine fV_mmax (pc' := 44) G kcX0_shareCell_120 ⟨Nat.le_of_ble_eq_true rfl, Nat.le_of_ble_eq_true rfl⟩ (Nat.zero_le _) (Nat.zero_le _) (by decide) (by omega) dX0_shareCell_41 rfl ?_
    refine fV_istore (lv' := [(6, .int (i32 (max 0 (max (sColX (I sc 4) (I k) f) (sColX (I sc 4) (I k2) f))))), (5, .int (i32 (sColX (I sc 4) (I k2) f))), (4, .int (i32 (sColX (I sc 4) (I k) f))), (0, .ref (Γ.1 sc)), (1, .ref (Γ.1 k)), (2, .ref (Γ.1 k2)), (3, .int (i32 f))]) (pc' := 46) G dX0_shareCell_44 (by decide) rfl rfl ?_
    refine fV_bipush (n := 40) (pc' := 48) G dX0_shareCell_46 rfl rfl ?_
    refine fV_iload (pc' := 50) G 2 dX0_shareCell_48 rfl rfl ?_
    refine fV_aload_n (pc' := 51) G 4 dX0_shareCell_50 rfl rfl rfl ?_
    refine fV_get (K := 2) (v := .int (i32 (I k 1))) (pc' := 54) G kfX0_shareCell_52 hnk hk1 rfl rfl dX0_shareCell_51 rfl ?_
    refine fV_iadd (pc' := 55) G dX0_shareCell_54 rfl ?_
    refine fV_iload (pc' := 57) G 1 dX0_shareCell_55 rfl rfl ?_
    refine fV_aload_n (pc' := 58) G 5 dX0_shareCell_57 rfl rfl rfl ?_
    refine fV_get (K := 2) (v := .int (i32 (I k2 1))) (pc' := 61) G kfX0_shareCell_52 (by omega) hj1 rfl rfl dX0_shareCell_58 rfl ?_
    refine fV_iadd (pc' := 62) G dX0_shareCell_61 rfl ?_
    refine fV_mmin (pc' := 65) G kcX0_shareCell_97 ⟨Nat.le_of_ble_eq_true rfl, Nat.le_of_ble_eq_true rfl⟩ (Nat.zero_le _) (Nat.zero_le _) (by omega) (by omega) dX0_shareCell_62 rfl ?_
    refine fV_mmin (pc' := 68) G kcX0_shareCell_97 ⟨Nat.le_of_ble_eq_true rfl, Nat.le_of_ble_eq_true rfl⟩ (Nat.zero_le _) (Nat.zero_le _) (by decide) (by omega) dX0_shareCell_65 rfl ?_
    refine fV_istore (lv' := [(7, .int (i32 (min 40 (min ((sColX (I sc 4) (I k) f) + (I k 1)) ((sColX (I sc 4) (I k2) f) + (I k2 1)))))), (6, .int (i32 (max 0 (max (sColX (I sc 4) (I k) f) (sColX (I sc 4) (I k2) f))))), (5, .int (i32 (sColX (I sc 4) (I k2) f))), (4, .int (i32 (sColX (I sc 4) (I k) f))), (0, .ref (Γ.1 sc)), (1, .ref (Γ.1 k)), (2, .ref (Γ.1 k2)), (3, .int (i32 f))]) (pc' := 70) G dX0_shareCell_68 (by decide) rfl rfl ?_
    refine fV_iload (pc' := 72) G 1 dX0_shareCell_70 rfl rfl ?_
    refine fV_iload (pc' := 74) G 0 dX0_shareCell_72 rfl rfl ?_
    refine fV_icmp_ge (tgt := 81) (pc' := 77) G dX0_shareCell_74 (by decide) rfl (by omega) (by omega) (fun c2 => ?_) (fun c2 => ?_)
    · refine fV_iconst (pc' := 82) G dX0_shareCell_81 rfl ?_
      refine fV_zret (b := false) G dX0_shareCell_82 ?_
      exact fE_b (by unfold sShare; simp; omega)
    · refine fV_iconst (pc' := 78) G dX0_shareCell_77 rfl ?_
      refine fV_goto (tgt := 82) G dX0_shareCell_78 (by decide) ?_
      refine fV_zret (b := true) G dX0_shareCell_82 ?_
      exact fE_b (by unfold sShare; simp; omega)
  · refine fV_iconst (pc' := 16) G dX0_shareCell_15 rfl ?_
    refine fV_zret (b := false) G dX0_shareCell_16 ?_
    exact fE_b (by unfold sShare; simp; omega)
set_option maxHeartbeats 4000000 in
set_option maxRecDepth 100000 in
theorem mX0_comesBefore (l : Launch) (Γ : fG) {N : Nat} (hN : 214 ≤ N) (I : fM) (P : fN) {k : Nat} (hk : fWd k) {k2 : Nat} (hj : fWd k2) (hw : fWv I k) (hx : fWv I k2) : fMet l yX0_comesBefore wsX0_comesBefore rmX0_comesBefore Γ N [.ref (Γ.1 k), .ref (Γ.1 k2)] I P (fE (some (.int (i32 (fB (decide (sBefore (I k) (I k2))))))) I P) := by
  refine fMet_of (own := RX0) (cc := cX0_comesBefore) (maxL := 2) (ret := (some .boolean)) rfl (by decide +kernel) rfl (Nat.le_of_ble_eq_true rfl) ?_
  intro p e s m args below meth c G
  obtain ⟨hk0, hk1, hk2⟩ := id hk
  have hnk : k < N := by omega
  obtain ⟨hw1, hw2, hw3, hw4, hw5, hw6, hw7⟩ := id hw
  obtain ⟨hj0, hj1, hj2⟩ := id hj
  obtain ⟨hx1, hx2, hx3, hx4, hx5, hx6, hx7⟩ := id hx
  refine fV_lv (lv' := [(0, .ref (Γ.1 k)), (1, .ref (Γ.1 k2))]) [0, 1] rfl ?_
  refine fV_aload_n (pc' := 1) G 0 dX0_comesBefore_0 rfl rfl rfl ?_
  refine fV_get (K := 2) (v := .int (i32 (I k 2))) (pc' := 4) G kfX0_comesBefore_55 hnk hk1 rfl rfl dX0_comesBefore_1 rfl ?_
  refine fV_aload_n (pc' := 5) G 1 dX0_comesBefore_4 rfl rfl rfl ?_
  refine fV_get (K := 2) (v := .int (i32 (I k2 2))) (pc' := 8) G kfX0_comesBefore_55 (by omega) hj1 rfl rfl dX0_comesBefore_5 rfl ?_
  refine fV_icmp_lt (tgt := 33) (pc' := 11) G dX0_comesBefore_8 (by decide) rfl (by omega) (by omega) (fun c1 => ?_) (fun c1 => ?_)
  · refine fV_iconst (pc' := 34) G dX0_comesBefore_33 rfl ?_
    refine fV_goto (tgt := 38) G dX0_comesBefore_34 (by decide) ?_
    refine fV_zret (b := true) G dX0_comesBefore_38 ?_
    exact fE_b (by unfold sBefore; simp; omega)
  · refine fV_aload_n (pc' := 12) G 0 dX0_comesBefore_11 rfl rfl rfl ?_
    refine fV_get (K := 2) (v := .int (i32 (I k 2))) (pc' := 15) G kfX0_comesBefore_55 hnk hk1 rfl rfl dX0_comesBefore_12 rfl ?_
    refine fV_aload_n (pc' := 16) G 1 dX0_comesBefore_15 rfl rfl rfl ?_
    refine fV_get (K := 2) (v := .int (i32 (I k2 2))) (pc' := 19) G kfX0_comesBefore_55 (by omega) hj1 rfl rfl dX0_comesBefore_16 rfl ?_
    refine fV_icmp_ne (tgt := 37) (pc' := 22) G dX0_comesBefore_19 (by decide) rfl (by omega) (by omega) (fun c2 => ?_) (fun c2 => ?_)
    · refine fV_iconst (pc' := 38) G dX0_comesBefore_37 rfl ?_
      refine fV_zret (b := false) G dX0_comesBefore_38 ?_
      exact fE_b (by unfold sBefore; simp; omega)
    · refine fV_aload_n (pc' := 23) G 0 dX0_comesBefore_22 rfl rfl rfl ?_
      refine fV_get (K := 2) (v := .int (i32 (I k 1))) (pc' := 26) G kfX0_comesBefore_52 hnk hk1 rfl rfl dX0_comesBefore_23 rfl ?_
      refine fV_aload_n (pc' := 27) G 1 dX0_comesBefore_26 rfl rfl rfl ?_
      refine fV_get (K := 2) (v := .int (i32 (I k2 1))) (pc' := 30) G kfX0_comesBefore_52 (by omega) hj1 rfl rfl dX0_comesBefore_27 rfl ?_
      refine fV_icmp_le (tgt := 37) (pc' := 33) G dX0_comesBefore_30 (by decide) rfl (by omega) (by omega) (fun c3 => ?_) (fun c3 => ?_)
      · refine fV_iconst (pc' := 38) G dX0_comesBefore_37 rfl ?_
        refine fV_zret (b := false) G dX0_comesBefore_38 ?_
        exact fE_b (by unfold sBefore; simp; omega)
      · refine fV_iconst (pc' := 34) G dX0_comesBefore_33 rfl ?_
        refine fV_goto (tgt := 38) G dX0_comesBefore_34 (by decide) ?_
        refine fV_zret (b := true) G dX0_comesBefore_38 ?_
        exact fE_b (by unfold sBefore; simp; omega)
set_option maxHeartbeats 4000000 in
set_option maxRecDepth 100000 in
theorem mX0_countPut (l : Launch) (Γ : fG) {N : Nat} (hN : 214 ≤ N) (I : fM) (P : fN) {sc : Nat} (hs : fSc sc) (hv : fSv I sc) (hp : fPs P sc) (hww : ∀ w : Int, 0 ≤ w → w < I sc 1 → fWv I (P (sc + 1) w)) : fMet l yX0_countPut wsX0_countPut rmX0_countPut Γ N [.ref (Γ.1 sc)] I P (fE (some (.int (i32 (sSum (fun i => if I (P (sc + 1) i) 6 = 1 then 1 else 0) (I sc 1))))) I P) := by
  refine fMet_of (own := RX0) (cc := cX0_countPut) (maxL := 3) (ret := (some .int)) rfl (by decide +kernel) rfl (Nat.le_of_ble_eq_true rfl) ?_
  intro p e s m args below meth c G
  obtain ⟨hs0, hs1, hs2, hs3, hs4, hs5, hs6⟩ := fSc_k hs
  have hn0 : sc < N := by omega
  have hn1 : sc + 1 < N := by omega
  have hn2 : sc + 2 < N := by omega
  obtain ⟨hv1, hv3, hv4, hvs⟩ := id hv
  have hwr : ∀ i : Int, 0 ≤ i → i < I sc 1 → I (P (sc + 1) i) 6 = 0 ∨ I (P (sc + 1) i) 6 = 1 := fun i h1 h2 => (hww i h1 h2).2.2.2.2.2.1
  refine fV_lv (lv' := [(0, .ref (Γ.1 sc))]) [0] rfl ?_
  refine fV_iconst (pc' := 1) G dX0_countPut_0 rfl ?_
  refine fV_istore_n (lv' := [(1, .int (i32 0)), (0, .ref (Γ.1 sc))]) (pc' := 2) G dX0_countPut_1 rfl (by decide) rfl rfl ?_
  refine fV_iconst (pc' := 3) G dX0_countPut_2 rfl ?_
  refine fV_istore_n (lv' := [(2, .int (i32 0)), (1, .int (i32 0)), (0, .ref (Γ.1 sc))]) (pc' := 4) G dX0_countPut_3 rfl (by decide) rfl rfl ?_
  have lp : ∀ (z : Nat) (i : Int) (q : Int), 0 ≤ i ∧ i ≤ I sc 1 → q = sSum (fun i => if I (P (sc + 1) i) 6 = 1 then 1 else 0) i → ((I sc 1 - i).toNat) = z → fV p l e rmX0_countPut s m args below meth c (MQ below (fQ Γ N (fE (some (.int (i32 (sSum (fun i => if I (P (sc + 1) i) 6 = 1 then 1 else 0) (I sc 1))))) I P)) args s 0 0 (fA Γ N)) (fA Γ N) Γ N 3 0 0 I P 4 [(0, .ref (Γ.1 sc)), (1, .int (i32 q)), (2, .int (i32 i))] [] := by
    intro z
    induction z using Nat.strongRecOn with
    | _ z ih_lp =>
      intro i q hi hq hz_lp
      refine fV_iload_n (pc' := 5) G 2 dX0_countPut_4 rfl rfl rfl ?_
      refine fV_aload_n (pc' := 6) G 0 dX0_countPut_5 rfl rfl rfl ?_
      refine fV_get (K := 0) (v := .int (i32 (I sc 1))) (pc' := 9) G kfX0_countPut_33 hn0 hs1 rfl rfl dX0_countPut_6 rfl ?_
      refine fV_icmp_ge (tgt := 33) (pc' := 12) G dX0_countPut_9 (by decide) rfl (by first | omega | (have := hwr i (by omega) (by omega); omega)) (by first | omega | (have := hwr i (by omega) (by omega); omega)) (fun c101 => ?_) (fun c101 => ?_)
      · refine fV_iload_n (pc' := 34) G 1 dX0_countPut_33 rfl rfl rfl ?_
        refine fV_iret G dX0_countPut_34 ?_
        exact fE_i (by rw [hq]; congr 1; omega)
      · refine fV_aload_n (pc' := 13) G 0 dX0_countPut_12 rfl rfl rfl ?_
        refine fV_get (K := 0) (v := .ref (Γ.1 (sc + 1))) (pc' := 16) G kfX0_countPut_11 hn0 hs1 rfl rfl dX0_countPut_13 rfl ?_
        refine fV_iload_n (pc' := 17) G 2 dX0_countPut_16 rfl rfl rfl ?_
        refine fV_aald (K := 11) (n := 12) (t := 1) (pc' := 18) G hn1 hs2 (fun _ _ => rfl) rfl (by decide) (by first | omega | (have := hwr i (by omega) (by omega); omega)) dX0_countPut_17 rfl ?_
        refine fV_get (K := 2) (v := .int (i32 (I (P (sc + 1) i) 6))) (pc' := 21) G kfX0_countPut_67 (by have := (fPs_w hs hp (w := i) (by omega) (by omega)).1; omega) (fPs_w hs hp (by omega) (by omega)).2.1 rfl rfl dX0_countPut_18 rfl ?_
        refine fV_if_eq (tgt := 27) (pc' := 24) G dX0_countPut_21 (by decide) rfl (by first | omega | (have := hwr i (by omega) (by omega); omega)) (fun c102 => ?_) (fun c102 => ?_)
        · refine fV_iinc (lv' := [(2, .int (i32 (i + 1))), (0, .ref (Γ.1 sc)), (1, .int (i32 q))]) (pc' := 30) G 2 dX0_countPut_27 rfl (by decide) rfl rfl ?_
          refine fV_goto (tgt := 4) G dX0_countPut_30 (by decide) ?_
          refine fV_lv (lv' := [(0, .ref (Γ.1 sc)), (1, .int (i32 q)), (2, .int (i32 (i + 1)))]) [1, 2, 0] rfl ?_
          exact ih_lp _ (by omega) (i + 1) q (by omega) (by have e := sSum_s (g := fun i => if I (P (sc + 1) i) 6 = 1 then 1 else 0) (n := i) (by omega); have e9 := hwr i (by omega) (by omega); rw [e, ← hq]; (try dsimp only); split <;> omega) rfl
        · refine fV_iinc (lv' := [(1, .int (i32 (q + 1))), (0, .ref (Γ.1 sc)), (2, .int (i32 i))]) (pc' := 27) G 1 dX0_countPut_24 rfl (by decide) rfl rfl ?_
          refine fV_iinc (lv' := [(2, .int (i32 (i + 1))), (1, .int (i32 (q + 1))), (0, .ref (Γ.1 sc))]) (pc' := 30) G 2 dX0_countPut_27 rfl (by decide) rfl rfl ?_
          refine fV_goto (tgt := 4) G dX0_countPut_30 (by decide) ?_
          refine fV_lv (lv' := [(0, .ref (Γ.1 sc)), (1, .int (i32 (q + 1))), (2, .int (i32 (i + 1)))]) [2, 1, 0] rfl ?_
          exact ih_lp _ (by omega) (i + 1) (q + 1) (by omega) (by have e := sSum_s (g := fun i => if I (P (sc + 1) i) 6 = 1 then 1 else 0) (n := i) (by omega); have e9 := hwr i (by omega) (by omega); rw [e, ← hq]; (try dsimp only); split <;> omega) rfl
  refine fV_lv (lv' := [(0, .ref (Γ.1 sc)), (1, .int (i32 0)), (2, .int (i32 0))]) [2, 1, 0] rfl ?_
  exact lp _ 0 0 (by omega) (by rw [sSum_0]) rfl
set_option maxHeartbeats 4000000 in
set_option maxRecDepth 100000 in
theorem mX0_visibleSet (l : Launch) (Γ : fG) {N : Nat} (hN : 214 ≤ N) (I : fM) (P : fN) {sc : Nat} (hs : fSc sc) (hv : fSv I sc) (hp : fPs P sc) (hww : ∀ w : Int, 0 ≤ w → w < I sc 1 → fWv I (P (sc + 1) w)) (f : Int) (hf : 0 ≤ f ∧ f ≤ 4001) : fMet l yX0_visibleSet wsX0_visibleSet rmX0_visibleSet Γ N [.ref (Γ.1 sc), .int (i32 f)] I P (fE (some (.int (sSet (fun i => decide (sVis (I sc 4) (I sc 3) (I (sc + 2)) (I (P (sc + 1) i)) f)) (I sc 1)))) I P) := by
  refine fMet_of (own := RX0) (cc := cX0_visibleSet) (maxL := 4) (ret := (some .int)) rfl (by decide +kernel) rfl (Nat.le_of_ble_eq_true rfl) ?_
  intro p e s m args below meth c G
  obtain ⟨hs0, hs1, hs2, hs3, hs4, hs5, hs6⟩ := fSc_k hs
  have hn0 : sc < N := by omega
  have hn1 : sc + 1 < N := by omega
  have hn2 : sc + 2 < N := by omega
  obtain ⟨hv1, hv3, hv4, hvs⟩ := id hv
  refine fV_lv (lv' := [(0, .ref (Γ.1 sc)), (1, .int (i32 f))]) [0, 1] rfl ?_
  refine fV_iconst (pc' := 1) G dX0_visibleSet_0 rfl ?_
  refine fV_istore_n (lv' := [(2, .int (i32 0)), (0, .ref (Γ.1 sc)), (1, .int (i32 f))]) (pc' := 2) G dX0_visibleSet_1 rfl (by decide) rfl rfl ?_
  refine fV_iconst (pc' := 3) G dX0_visibleSet_2 rfl ?_
  refine fV_istore_n (lv' := [(3, .int (i32 0)), (2, .int (i32 0)), (0, .ref (Γ.1 sc)), (1, .int (i32 f))]) (pc' := 4) G dX0_visibleSet_3 rfl (by decide) rfl rfl ?_
  have lp : ∀ (z : Nat) (i : Int) (q : Int32), 0 ≤ i ∧ i ≤ I sc 1 → q = sSet (fun i => decide (sVis (I sc 4) (I sc 3) (I (sc + 2)) (I (P (sc + 1) i)) f)) i → ((I sc 1 - i).toNat) = z → fV p l e rmX0_visibleSet s m args below meth c (MQ below (fQ Γ N (fE (some (.int (sSet (fun i => decide (sVis (I sc 4) (I sc 3) (I (sc + 2)) (I (P (sc + 1) i)) f)) (I sc 1)))) I P)) args s 0 0 (fA Γ N)) (fA Γ N) Γ N 4 0 0 I P 4 [(0, .ref (Γ.1 sc)), (1, .int (i32 f)), (2, .int q), (3, .int (i32 i))] [] := by
    intro z
    induction z using Nat.strongRecOn with
    | _ z ih_lp =>
      intro i q hi hq hz_lp
      refine fV_iload_n (pc' := 5) G 3 dX0_visibleSet_4 rfl rfl rfl ?_
      refine fV_aload_n (pc' := 6) G 0 dX0_visibleSet_5 rfl rfl rfl ?_
      refine fV_get (K := 0) (v := .int (i32 (I sc 1))) (pc' := 9) G kfX0_visibleSet_33 hn0 hs1 rfl rfl dX0_visibleSet_6 rfl ?_
      refine fV_icmp_ge (tgt := 38) (pc' := 12) G dX0_visibleSet_9 (by decide) rfl (by omega) (by omega) (fun c101 => ?_) (fun c101 => ?_)
      · refine fV_iload_n (pc' := 39) G 2 dX0_visibleSet_38 rfl rfl rfl ?_
        refine fV_iret G dX0_visibleSet_39 ?_
        exact ⟨by rw [hq, show i = I sc 1 by omega], rfl, rfl⟩
      · refine fV_aload_n (pc' := 13) G 0 dX0_visibleSet_12 rfl rfl rfl ?_
        refine fV_aload_n (pc' := 14) G 0 dX0_visibleSet_13 rfl rfl rfl ?_
        refine fV_get (K := 0) (v := .ref (Γ.1 (sc + 1))) (pc' := 17) G kfX0_visibleSet_11 hn0 hs1 rfl rfl dX0_visibleSet_14 rfl ?_
        refine fV_iload_n (pc' := 18) G 3 dX0_visibleSet_17 rfl rfl rfl ?_
        refine fV_aald (K := 11) (n := 12) (t := 1) (pc' := 19) G hn1 hs2 (fun _ _ => rfl) rfl (by decide) (by omega) dX0_visibleSet_18 rfl ?_
        refine fV_iload_n (pc' := 20) G 1 dX0_visibleSet_19 rfl rfl rfl ?_
        refine fV_callVf (st' := [.int (i32 (fB (decide (sVis (I sc 4) (I sc 3) (I (sc + 2)) (I (P (sc + 1) i)) f))))]) (n := 2) (k := sc) (K := 0) (As := [.ref (Γ.1 (P (sc + 1) i)), .int (i32 f)]) (rest := []) (pc' := 23) G (mX0_isVisible l Γ hN I P hs hv (fPs_w hs hp (by omega) (by omega)) (hww _ (by omega) (by omega)) f (by omega)) kcX0_visibleSet_109 hn0 hs1 rfl rfl rfl (Nat.le_of_ble_eq_true rfl) (Nat.zero_le _) (Nat.zero_le _) dX0_visibleSet_20 rfl rfl ?_
        refine fV_ifeq_b (tgt := 32) (pc' := 26) G dX0_visibleSet_23 (by decide) rfl (fun c102 => ?_) (fun c102 => ?_)
        · refine fV_iinc (lv' := [(3, .int (i32 (i + 1))), (0, .ref (Γ.1 sc)), (1, .int (i32 f)), (2, .int q)]) (pc' := 35) G 3 dX0_visibleSet_32 rfl (by decide) rfl rfl ?_
          refine fV_goto (tgt := 4) G dX0_visibleSet_35 (by decide) ?_
          refine fV_lv (lv' := [(0, .ref (Γ.1 sc)), (1, .int (i32 f)), (2, .int q), (3, .int (i32 (i + 1)))]) [1, 2, 3, 0] rfl ?_
          exact ih_lp _ (by omega) (i + 1) q (by omega) (by rw [sSet_s (by omega), ← hq]; simp [*]) rfl
        · refine fV_iload_n (pc' := 27) G 2 dX0_visibleSet_26 rfl rfl rfl ?_
          refine fV_iconst (pc' := 28) G dX0_visibleSet_27 rfl ?_
          refine fV_iload_n (pc' := 29) G 3 dX0_visibleSet_28 rfl rfl rfl ?_
          refine fV_ishl (pc' := 30) G dX0_visibleSet_29 rfl ?_
          refine fV_ior (pc' := 31) G dX0_visibleSet_30 rfl ?_
          refine fV_istore_n (lv' := [(2, .int (q ||| i32 1 <<< (i32 i &&& 31))), (0, .ref (Γ.1 sc)), (1, .int (i32 f)), (3, .int (i32 i))]) (pc' := 32) G dX0_visibleSet_31 rfl (by decide) rfl rfl ?_
          refine fV_iinc (lv' := [(3, .int (i32 (i + 1))), (2, .int (q ||| i32 1 <<< (i32 i &&& 31))), (0, .ref (Γ.1 sc)), (1, .int (i32 f))]) (pc' := 35) G 3 dX0_visibleSet_32 rfl (by decide) rfl rfl ?_
          refine fV_goto (tgt := 4) G dX0_visibleSet_35 (by decide) ?_
          refine fV_lv (lv' := [(0, .ref (Γ.1 sc)), (1, .int (i32 f)), (2, .int (q ||| i32 1 <<< (i32 i &&& 31))), (3, .int (i32 (i + 1)))]) [2, 3, 1, 0] rfl ?_
          exact ih_lp _ (by omega) (i + 1) (q ||| i32 1 <<< (i32 i &&& 31)) (by omega) (by rw [sSet_s (by omega), ← hq]; simp [*]) rfl
  refine fV_lv (lv' := [(0, .ref (Γ.1 sc)), (1, .int (i32 f)), (2, .int (i32 0)), (3, .int (i32 0))]) [2, 3, 1, 0] rfl ?_
  exact lp _ 0 (i32 0) (by omega) (by rw [sSet_0]) rfl
set_option maxHeartbeats 4000000 in
set_option maxRecDepth 100000 in
theorem mX0_firstMeeting (l : Launch) (Γ : fG) {N : Nat} (hN : 214 ≤ N) (I : fM) (P : fN) {sc : Nat} (hs : fSc sc) (hv : fSv I sc) {k : Nat} (hk : fWd k) (hw : fWv I k) {k2 : Nat} (hj : fWd k2) (hx : fWv I k2) : fMet l yX0_firstMeeting wsX0_firstMeeting rmX0_firstMeeting Γ N [.ref (Γ.1 sc), .ref (Γ.1 k), .ref (Γ.1 k2)] I P (fE (some (.int (i32 (sMeet (I sc 4) (I sc 3) (I (sc + 2)) (I k) (I k2))))) I P) := by
  refine fMet_of (own := RX0) (cc := cX0_firstMeeting) (maxL := 7) (ret := (some .int)) rfl (by decide +kernel) rfl (Nat.le_of_ble_eq_true rfl) ?_
  intro p e s m args below meth c G
  obtain ⟨hs0, hs1, hs2, hs3, hs4, hs5, hs6⟩ := fSc_k hs
  have hn0 : sc < N := by omega
  have hn1 : sc + 1 < N := by omega
  have hn2 : sc + 2 < N := by omega
  obtain ⟨hv1, hv3, hv4, hvs⟩ := id hv
  obtain ⟨hk0, hk1, hk2⟩ := id hk
  have hnk : k < N := by omega
  obtain ⟨hw1, hw2, hw3, hw4, hw5, hw6, hw7⟩ := id hw
  obtain ⟨hj0, hj1, hj2⟩ := id hj
  obtain ⟨hx1, hx2, hx3, hx4, hx5, hx6, hx7⟩ := id hx
  refine fV_lv (lv' := [(0, .ref (Γ.1 sc)), (1, .ref (Γ.1 k)), (2, .ref (Γ.1 k2))]) [0, 1, 2] rfl ?_
  refine fV_aload_n (pc' := 1) G 1 dX0_firstMeeting_0 rfl rfl rfl ?_
  refine fV_get (K := 2) (v := .int (i32 (I k 6))) (pc' := 4) G kfX0_firstMeeting_67 hnk hk1 rfl rfl dX0_firstMeeting_1 rfl ?_
  refine fV_if_eq (tgt := 14) (pc' := 7) G dX0_firstMeeting_4 (by decide) rfl (by omega) (fun c1 => ?_) (fun c1 => ?_)
  · refine fV_bipush (n := -19) (pc' := 16) G dX0_firstMeeting_14 rfl rfl ?_
    refine fV_iret G dX0_firstMeeting_16 ?_
    exact fE_i (sMeet_no (by omega)).symm
  · refine fV_aload_n (pc' := 8) G 2 dX0_firstMeeting_7 rfl rfl rfl ?_
    refine fV_get (K := 2) (v := .int (i32 (I k2 6))) (pc' := 11) G kfX0_firstMeeting_67 (by omega) hj1 rfl rfl dX0_firstMeeting_8 rfl ?_
    refine fV_if_ne (tgt := 17) (pc' := 14) G dX0_firstMeeting_11 (by decide) rfl (by omega) (fun c2 => ?_) (fun c2 => ?_)
    · have hput : I k 6 = 1 := by omega
      have hput2 : I k2 6 = 1 := by omega
      have hga := sGone_b hv hw hput
      have hgb := sGone_b hv hx hput2
      refine fV_aload_n (pc' := 18) G 1 dX0_firstMeeting_17 rfl rfl rfl ?_
      refine fV_get (K := 2) (v := .int (i32 (I k 7))) (pc' := 21) G kfX0_firstMeeting_76 hnk hk1 rfl rfl dX0_firstMeeting_18 rfl ?_
      refine fV_aload_n (pc' := 22) G 2 dX0_firstMeeting_21 rfl rfl rfl ?_
      refine fV_get (K := 2) (v := .int (i32 (I k2 7))) (pc' := 25) G kfX0_firstMeeting_76 (by omega) hj1 rfl rfl dX0_firstMeeting_22 rfl ?_
      refine fV_icmp_eq (tgt := 45) (pc' := 28) G dX0_firstMeeting_25 (by decide) rfl (by omega) (by omega) (fun c3 => ?_) (fun c3 => ?_)
      · refine fV_aload_n (pc' := 46) G 1 dX0_firstMeeting_45 rfl rfl rfl ?_
        refine fV_get (K := 2) (v := .int (i32 (I k 2))) (pc' := 49) G kfX0_firstMeeting_55 hnk hk1 rfl rfl dX0_firstMeeting_46 rfl ?_
        refine fV_aload_n (pc' := 50) G 2 dX0_firstMeeting_49 rfl rfl rfl ?_
        refine fV_get (K := 2) (v := .int (i32 (I k2 2))) (pc' := 53) G kfX0_firstMeeting_55 (by omega) hj1 rfl rfl dX0_firstMeeting_50 rfl ?_
        refine fV_mmax (pc' := 56) G kcX0_firstMeeting_120 ⟨Nat.le_of_ble_eq_true rfl, Nat.le_of_ble_eq_true rfl⟩ (Nat.zero_le _) (Nat.zero_le _) (by omega) (by omega) dX0_firstMeeting_53 rfl ?_
        refine fV_istore_n (lv' := [(3, .int (i32 (max (I k 2) (I k2 2)))), (0, .ref (Γ.1 sc)), (1, .ref (Γ.1 k)), (2, .ref (Γ.1 k2))]) (pc' := 57) G dX0_firstMeeting_56 rfl (by decide) rfl rfl ?_
        refine fV_aload_n (pc' := 58) G 1 dX0_firstMeeting_57 rfl rfl rfl ?_
        refine fV_aload_n (pc' := 59) G 2 dX0_firstMeeting_58 rfl rfl rfl ?_
        refine fV_callVf (st' := [.int (i32 (sGone (I sc 4) (I sc 3) (I (sc + 2)) (I k)))]) (n := 1) (k := sc) (K := 0) (As := [.ref (Γ.1 k)]) (rest := []) (pc' := 62) G (mX0_goneFrom l Γ hN I P hs hv hk hw (by assumption)) kcX0_firstMeeting_106 hn0 hs1 rfl rfl rfl (Nat.le_of_ble_eq_true rfl) (Nat.zero_le _) (Nat.zero_le _) dX0_firstMeeting_59 rfl rfl ?_
        refine fV_aload_n (pc' := 63) G 1 dX0_firstMeeting_62 rfl rfl rfl ?_
        refine fV_aload_n (pc' := 64) G 3 dX0_firstMeeting_63 rfl rfl rfl ?_
        refine fV_callVf (st' := [.int (i32 (sGone (I sc 4) (I sc 3) (I (sc + 2)) (I k2))), .int (i32 (sGone (I sc 4) (I sc 3) (I (sc + 2)) (I k)))]) (n := 1) (k := sc) (K := 0) (As := [.ref (Γ.1 k2)]) (rest := [.int (i32 (sGone (I sc 4) (I sc 3) (I (sc + 2)) (I k)))]) (pc' := 67) G (mX0_goneFrom l Γ hN I P hs hv hj hx (by assumption)) kcX0_firstMeeting_106 hn0 hs1 rfl rfl rfl (Nat.le_of_ble_eq_true rfl) (Nat.zero_le _) (Nat.zero_le _) dX0_firstMeeting_64 rfl rfl ?_
        refine fV_mmin (pc' := 70) G kcX0_firstMeeting_97 ⟨Nat.le_of_ble_eq_true rfl, Nat.le_of_ble_eq_true rfl⟩ (Nat.zero_le _) (Nat.zero_le _) (by omega) (by omega) dX0_firstMeeting_67 rfl ?_
        refine fV_istore (lv' := [(4, .int (i32 (min (sGone (I sc 4) (I sc 3) (I (sc + 2)) (I k)) (sGone (I sc 4) (I sc 3) (I (sc + 2)) (I k2))))), (3, .int (i32 (max (I k 2) (I k2 2)))), (0, .ref (Γ.1 sc)), (1, .ref (Γ.1 k)), (2, .ref (Γ.1 k2))]) (pc' := 72) G dX0_firstMeeting_70 (by decide) rfl rfl ?_
        refine fV_iload_n (pc' := 73) G 1 dX0_firstMeeting_72 rfl rfl rfl ?_
        refine fV_iload (pc' := 75) G 0 dX0_firstMeeting_73 rfl rfl ?_
        refine fV_icmp_ge (tgt := 90) (pc' := 78) G dX0_firstMeeting_75 (by decide) rfl (by omega) (by omega) (fun c4 => ?_) (fun c4 => ?_)
        · have hns : min (sGone (I sc 4) (I sc 3) (I (sc + 2)) (I k)) (sGone (I sc 4) (I sc 3) (I (sc + 2)) (I k2)) ≤ max (I k 2) (I k2 2) ∨ ¬ sShare (I sc 4) (I k) (I k2) (max (I k 2) (I k2 2)) := Or.inl c4
          refine fV_iload_n (pc' := 91) G 1 dX0_firstMeeting_90 rfl rfl rfl ?_
          refine fV_iconst (pc' := 92) G dX0_firstMeeting_91 rfl ?_
          refine fV_iadd (pc' := 93) G dX0_firstMeeting_92 rfl ?_
          refine fV_aload_n (pc' := 94) G 3 dX0_firstMeeting_93 rfl rfl rfl ?_
          refine fV_callVf (st' := [.int (i32 (I k 2 + I k 3 + I k 4)), .int (i32 ((max (I k 2) (I k2 2)) + 1))]) (n := 0) (k := k) (K := 2) (As := []) (rest := [.int (i32 ((max (I k 2) (I k2 2)) + 1))]) (pc' := 97) G (mX2_leavesIn l Γ hN I P hk) kcX0_firstMeeting_89 hnk hk1 rfl rfl rfl (Nat.le_of_ble_eq_true rfl) (Nat.zero_le _) (Nat.zero_le _) dX0_firstMeeting_94 rfl rfl ?_
          refine fV_aload_n (pc' := 98) G 4 dX0_firstMeeting_97 rfl rfl rfl ?_
          refine fV_callVf (st' := [.int (i32 (I k2 2 + I k2 3 + I k2 4)), .int (i32 (I k 2 + I k 3 + I k 4)), .int (i32 ((max (I k 2) (I k2 2)) + 1))]) (n := 0) (k := k2) (K := 2) (As := []) (rest := [.int (i32 (I k 2 + I k 3 + I k 4)), .int (i32 ((max (I k 2) (I k2 2)) + 1))]) (pc' := 101) G (mX2_leavesIn l Γ hN I P hj) kcX0_firstMeeting_89 (by omega) hj1 rfl rfl rfl (Nat.le_of_ble_eq_true rfl) (Nat.zero_le _) (Nat.zero_le _) dX0_firstMeeting_98 rfl rfl ?_
          refine fV_mmin (pc' := 104) G kcX0_firstMeeting_97 ⟨Nat.le_of_ble_eq_true rfl, Nat.le_of_ble_eq_true rfl⟩ (Nat.zero_le _) (Nat.zero_le _) (by omega) (by omega) dX0_firstMeeting_101 rfl ?_
          refine fV_mmax (pc' := 107) G kcX0_firstMeeting_120 ⟨Nat.le_of_ble_eq_true rfl, Nat.le_of_ble_eq_true rfl⟩ (Nat.zero_le _) (Nat.zero_le _) (by omega) (by omega) dX0_firstMeeting_104 rfl ?_
          refine fV_istore (lv' := [(5, .int (i32 (max ((max (I k 2) (I k2 2)) + 1) (min (I k 2 + I k 3 + I k 4) (I k2 2 + I k2 3 + I k2 4))))), (4, .int (i32 (min (sGone (I sc 4) (I sc 3) (I (sc + 2)) (I k)) (sGone (I sc 4) (I sc 3) (I (sc + 2)) (I k2))))), (3, .int (i32 (max (I k 2) (I k2 2)))), (0, .ref (Γ.1 sc)), (1, .ref (Γ.1 k)), (2, .ref (Γ.1 k2))]) (pc' := 109) G dX0_firstMeeting_107 (by decide) rfl rfl ?_
          refine fV_iload (pc' := 111) G 0 dX0_firstMeeting_109 rfl rfl ?_
          refine fV_istore (lv' := [(6, .int (i32 (max ((max (I k 2) (I k2 2)) + 1) (min (I k 2 + I k 3 + I k 4) (I k2 2 + I k2 3 + I k2 4))))), (5, .int (i32 (max ((max (I k 2) (I k2 2)) + 1) (min (I k 2 + I k 3 + I k 4) (I k2 2 + I k2 3 + I k2 4))))), (4, .int (i32 (min (sGone (I sc 4) (I sc 3) (I (sc + 2)) (I k)) (sGone (I sc 4) (I sc 3) (I (sc + 2)) (I k2))))), (3, .int (i32 (max (I k 2) (I k2 2)))), (0, .ref (Γ.1 sc)), (1, .ref (Γ.1 k)), (2, .ref (Γ.1 k2))]) (pc' := 113) G dX0_firstMeeting_111 (by decide) rfl rfl ?_
          have lp : ∀ (z : Nat) (i : Int), max (I k 2) (I k2 2) + 1 ≤ i ∧ i ≤ 5000 → (∀ f, max (I k 2) (I k2 2) ≤ f → f < i → f < min (sGone (I sc 4) (I sc 3) (I (sc + 2)) (I k)) (sGone (I sc 4) (I sc 3) (I (sc + 2)) (I k2)) → ¬ sShare (I sc 4) (I k) (I k2) f) → ((5000 - i).toNat) = z → fV p l e rmX0_firstMeeting s m args below meth c (MQ below (fQ Γ N (fE (some (.int (i32 (sMeet (I sc 4) (I sc 3) (I (sc + 2)) (I k) (I k2))))) I P)) args s 0 0 (fA Γ N)) (fA Γ N) Γ N 7 0 0 I P 113 [(0, .ref (Γ.1 sc)), (1, .ref (Γ.1 k)), (2, .ref (Γ.1 k2)), (3, .int (i32 (max (I k 2) (I k2 2)))), (4, .int (i32 (min (sGone (I sc 4) (I sc 3) (I (sc + 2)) (I k)) (sGone (I sc 4) (I sc 3) (I (sc + 2)) (I k2))))), (6, .int (i32 i))] [] := by
            intro z
            induction z using Nat.strongRecOn with
            | _ z ih_lp =>
              intro i hi hno hz_lp
              refine fV_iload (pc' := 115) G 5 dX0_firstMeeting_113 rfl rfl ?_
              refine fV_iload (pc' := 117) G 4 dX0_firstMeeting_115 rfl rfl ?_
              refine fV_icmp_ge (tgt := 140) (pc' := 120) G dX0_firstMeeting_117 (by decide) rfl (by omega) (by omega) (fun c105 => ?_) (fun c105 => ?_)
              · refine fV_bipush (n := -19) (pc' := 142) G dX0_firstMeeting_140 rfl rfl ?_
                refine fV_iret G dX0_firstMeeting_142 ?_
                exact fE_i (sMeet_end (by omega) hno).symm
              · refine fV_aload_n (pc' := 121) G 0 dX0_firstMeeting_120 rfl rfl rfl ?_
                refine fV_aload_n (pc' := 122) G 1 dX0_firstMeeting_121 rfl rfl rfl ?_
                refine fV_aload_n (pc' := 123) G 2 dX0_firstMeeting_122 rfl rfl rfl ?_
                refine fV_iload (pc' := 125) G 5 dX0_firstMeeting_123 rfl rfl ?_
                refine fV_callVf (st' := [.int (i32 (fB (decide (sShare (I sc 4) (I k) (I k2) i))))]) (n := 3) (k := sc) (K := 0) (As := [.ref (Γ.1 k), .ref (Γ.1 k2), .int (i32 i)]) (rest := []) (pc' := 128) G (mX0_shareCell l Γ hN I P hs hv4 hk hw hj hx i (by omega) (by assumption) (by assumption)) kcX0_firstMeeting_128 hn0 hs1 rfl rfl rfl (Nat.le_of_ble_eq_true rfl) (Nat.zero_le _) (Nat.zero_le _) dX0_firstMeeting_125 rfl rfl ?_
                refine fV_ifeq_b (tgt := 134) (pc' := 131) G dX0_firstMeeting_128 (by decide) rfl (fun c106 => ?_) (fun c106 => ?_)
                · have hsn := of_decide_eq_false c106
                  refine fV_iinc (lv' := [(6, .int (i32 (i + 1))), (0, .ref (Γ.1 sc)), (1, .ref (Γ.1 k)), (2, .ref (Γ.1 k2)), (3, .int (i32 (max (I k 2) (I k2 2)))), (4, .int (i32 (min (sGone (I sc 4) (I sc 3) (I (sc + 2)) (I k)) (sGone (I sc 4) (I sc 3) (I (sc + 2)) (I k2)))))]) (pc' := 137) G 5 dX0_firstMeeting_134 rfl (by decide) rfl rfl ?_
                  refine fV_goto (tgt := 113) G dX0_firstMeeting_137 (by decide) ?_
                  refine fV_lv (lv' := [(0, .ref (Γ.1 sc)), (1, .ref (Γ.1 k)), (2, .ref (Γ.1 k2)), (3, .int (i32 (max (I k 2) (I k2 2)))), (4, .int (i32 (min (sGone (I sc 4) (I sc 3) (I (sc + 2)) (I k)) (sGone (I sc 4) (I sc 3) (I (sc + 2)) (I k2))))), (6, .int (i32 (i + 1)))]) [1, 2, 3, 4, 5, 0] rfl ?_
                  exact ih_lp _ (by omega) (i + 1) (by omega) (fun f z1 z2 z3 => by by_cases z : f = i; exact z ▸ hsn; exact hno f z1 (by omega) z3) rfl
                · have hsh := of_decide_eq_true c106
                  refine fV_iload (pc' := 133) G 5 dX0_firstMeeting_131 rfl rfl ?_
                  refine fV_iret G dX0_firstMeeting_133 ?_
                  exact fE_i (sMeet_hit ⟨hput, hput2⟩ (by omega) (by omega) hsh hno).symm
          refine fV_lv (lv' := [(0, .ref (Γ.1 sc)), (1, .ref (Γ.1 k)), (2, .ref (Γ.1 k2)), (3, .int (i32 (max (I k 2) (I k2 2)))), (4, .int (i32 (min (sGone (I sc 4) (I sc 3) (I (sc + 2)) (I k)) (sGone (I sc 4) (I sc 3) (I (sc + 2)) (I k2))))), (6, .int (i32 (max ((max (I k 2) (I k2 2)) + 1) (min (I k 2 + I k 3 + I k 4) (I k2 2 + I k2 3 + I k2 4)))))]) [4, 5, 6, 3, 2, 0] rfl ?_
          exact lp _ (max (max (I k 2) (I k2 2) + 1) (min (I k 2 + I k 3 + I k 4) (I k2 2 + I k2 3 + I k2 4))) (by omega) (no_share hns) rfl
        · have hlt : max (I k 2) (I k2 2) < min (sGone (I sc 4) (I sc 3) (I (sc + 2)) (I k)) (sGone (I sc 4) (I sc 3) (I (sc + 2)) (I k2)) := by omega
          refine fV_aload_n (pc' := 79) G 2 dX0_firstMeeting_78 rfl rfl rfl ?_
          refine fV_aload_n (pc' := 80) G 3 dX0_firstMeeting_79 rfl rfl rfl ?_
          refine fV_aload_n (pc' := 81) G 4 dX0_firstMeeting_80 rfl rfl rfl ?_
          refine fV_iload_n (pc' := 82) G 1 dX0_firstMeeting_81 rfl rfl rfl ?_
          refine fV_callVf (st' := [.int (i32 (fB (decide (sShare (I sc 4) (I k) (I k2) (max (I k 2) (I k2 2))))))]) (n := 3) (k := sc) (K := 0) (As := [.ref (Γ.1 k), .ref (Γ.1 k2), .int (i32 (max (I k 2) (I k2 2)))]) (rest := []) (pc' := 85) G (mX0_shareCell l Γ hN I P hs hv4 hk hw hj hx (max (I k 2) (I k2 2)) (by omega) (by assumption) (by assumption)) kcX0_firstMeeting_128 hn0 hs1 rfl rfl rfl (Nat.le_of_ble_eq_true rfl) (Nat.zero_le _) (Nat.zero_le _) dX0_firstMeeting_82 rfl rfl ?_
          refine fV_ifeq_b (tgt := 90) (pc' := 88) G dX0_firstMeeting_85 (by decide) rfl (fun c5 => ?_) (fun c5 => ?_)
          · have hns : min (sGone (I sc 4) (I sc 3) (I (sc + 2)) (I k)) (sGone (I sc 4) (I sc 3) (I (sc + 2)) (I k2)) ≤ max (I k 2) (I k2 2) ∨ ¬ sShare (I sc 4) (I k) (I k2) (max (I k 2) (I k2 2)) := Or.inr (of_decide_eq_false c5)
            refine fV_iload_n (pc' := 91) G 1 dX0_firstMeeting_90 rfl rfl rfl ?_
            refine fV_iconst (pc' := 92) G dX0_firstMeeting_91 rfl ?_
            refine fV_iadd (pc' := 93) G dX0_firstMeeting_92 rfl ?_
            refine fV_aload_n (pc' := 94) G 3 dX0_firstMeeting_93 rfl rfl rfl ?_
            refine fV_callVf (st' := [.int (i32 (I k 2 + I k 3 + I k 4)), .int (i32 ((max (I k 2) (I k2 2)) + 1))]) (n := 0) (k := k) (K := 2) (As := []) (rest := [.int (i32 ((max (I k 2) (I k2 2)) + 1))]) (pc' := 97) G (mX2_leavesIn l Γ hN I P hk) kcX0_firstMeeting_89 hnk hk1 rfl rfl rfl (Nat.le_of_ble_eq_true rfl) (Nat.zero_le _) (Nat.zero_le _) dX0_firstMeeting_94 rfl rfl ?_
            refine fV_aload_n (pc' := 98) G 4 dX0_firstMeeting_97 rfl rfl rfl ?_
            refine fV_callVf (st' := [.int (i32 (I k2 2 + I k2 3 + I k2 4)), .int (i32 (I k 2 + I k 3 + I k 4)), .int (i32 ((max (I k 2) (I k2 2)) + 1))]) (n := 0) (k := k2) (K := 2) (As := []) (rest := [.int (i32 (I k 2 + I k 3 + I k 4)), .int (i32 ((max (I k 2) (I k2 2)) + 1))]) (pc' := 101) G (mX2_leavesIn l Γ hN I P hj) kcX0_firstMeeting_89 (by omega) hj1 rfl rfl rfl (Nat.le_of_ble_eq_true rfl) (Nat.zero_le _) (Nat.zero_le _) dX0_firstMeeting_98 rfl rfl ?_
            refine fV_mmin (pc' := 104) G kcX0_firstMeeting_97 ⟨Nat.le_of_ble_eq_true rfl, Nat.le_of_ble_eq_true rfl⟩ (Nat.zero_le _) (Nat.zero_le _) (by omega) (by omega) dX0_firstMeeting_101 rfl ?_
            refine fV_mmax (pc' := 107) G kcX0_firstMeeting_120 ⟨Nat.le_of_ble_eq_true rfl, Nat.le_of_ble_eq_true rfl⟩ (Nat.zero_le _) (Nat.zero_le _) (by omega) (by omega) dX0_firstMeeting_104 rfl ?_
            refine fV_istore (lv' := [(5, .int (i32 (max ((max (I k 2) (I k2 2)) + 1) (min (I k 2 + I k 3 + I k 4) (I k2 2 + I k2 3 + I k2 4))))), (4, .int (i32 (min (sGone (I sc 4) (I sc 3) (I (sc + 2)) (I k)) (sGone (I sc 4) (I sc 3) (I (sc + 2)) (I k2))))), (3, .int (i32 (max (I k 2) (I k2 2)))), (0, .ref (Γ.1 sc)), (1, .ref (Γ.1 k)), (2, .ref (Γ.1 k2))]) (pc' := 109) G dX0_firstMeeting_107 (by decide) rfl rfl ?_
            refine fV_iload (pc' := 111) G 0 dX0_firstMeeting_109 rfl rfl ?_
            refine fV_istore (lv' := [(6, .int (i32 (max ((max (I k 2) (I k2 2)) + 1) (min (I k 2 + I k 3 + I k 4) (I k2 2 + I k2 3 + I k2 4))))), (5, .int (i32 (max ((max (I k 2) (I k2 2)) + 1) (min (I k 2 + I k 3 + I k 4) (I k2 2 + I k2 3 + I k2 4))))), (4, .int (i32 (min (sGone (I sc 4) (I sc 3) (I (sc + 2)) (I k)) (sGone (I sc 4) (I sc 3) (I (sc + 2)) (I k2))))), (3, .int (i32 (max (I k 2) (I k2 2)))), (0, .ref (Γ.1 sc)), (1, .ref (Γ.1 k)), (2, .ref (Γ.1 k2))]) (pc' := 113) G dX0_firstMeeting_111 (by decide) rfl rfl ?_
            have lp : ∀ (z : Nat) (i : Int), max (I k 2) (I k2 2) + 1 ≤ i ∧ i ≤ 5000 → (∀ f, max (I k 2) (I k2 2) ≤ f → f < i → f < min (sGone (I sc 4) (I sc 3) (I (sc + 2)) (I k)) (sGone (I sc 4) (I sc 3) (I (sc + 2)) (I k2)) → ¬ sShare (I sc 4) (I k) (I k2) f) → ((5000 - i).toNat) = z → fV p l e rmX0_firstMeeting s m args below meth c (MQ below (fQ Γ N (fE (some (.int (i32 (sMeet (I sc 4) (I sc 3) (I (sc + 2)) (I k) (I k2))))) I P)) args s 0 0 (fA Γ N)) (fA Γ N) Γ N 7 0 0 I P 113 [(0, .ref (Γ.1 sc)), (1, .ref (Γ.1 k)), (2, .ref (Γ.1 k2)), (3, .int (i32 (max (I k 2) (I k2 2)))), (4, .int (i32 (min (sGone (I sc 4) (I sc 3) (I (sc + 2)) (I k)) (sGone (I sc 4) (I sc 3) (I (sc + 2)) (I k2))))), (6, .int (i32 i))] [] := by
              intro z
              induction z using Nat.strongRecOn with
              | _ z ih_lp =>
                intro i hi hno hz_lp
                refine fV_iload (pc' := 115) G 5 dX0_firstMeeting_113 rfl rfl ?_
                refine fV_iload (pc' := 117) G 4 dX0_firstMeeting_115 rfl rfl ?_
                refine fV_icmp_ge (tgt := 140) (pc' := 120) G dX0_firstMeeting_117 (by decide) rfl (by omega) (by omega) (fun c106 => ?_) (fun c106 => ?_)
                · refine fV_bipush (n := -19) (pc' := 142) G dX0_firstMeeting_140 rfl rfl ?_
                  refine fV_iret G dX0_firstMeeting_142 ?_
                  exact fE_i (sMeet_end (by omega) hno).symm
                · refine fV_aload_n (pc' := 121) G 0 dX0_firstMeeting_120 rfl rfl rfl ?_
                  refine fV_aload_n (pc' := 122) G 1 dX0_firstMeeting_121 rfl rfl rfl ?_
                  refine fV_aload_n (pc' := 123) G 2 dX0_firstMeeting_122 rfl rfl rfl ?_
                  refine fV_iload (pc' := 125) G 5 dX0_firstMeeting_123 rfl rfl ?_
                  refine fV_callVf (st' := [.int (i32 (fB (decide (sShare (I sc 4) (I k) (I k2) i))))]) (n := 3) (k := sc) (K := 0) (As := [.ref (Γ.1 k), .ref (Γ.1 k2), .int (i32 i)]) (rest := []) (pc' := 128) G (mX0_shareCell l Γ hN I P hs hv4 hk hw hj hx i (by omega) (by assumption) (by assumption)) kcX0_firstMeeting_128 hn0 hs1 rfl rfl rfl (Nat.le_of_ble_eq_true rfl) (Nat.zero_le _) (Nat.zero_le _) dX0_firstMeeting_125 rfl rfl ?_
                  refine fV_ifeq_b (tgt := 134) (pc' := 131) G dX0_firstMeeting_128 (by decide) rfl (fun c107 => ?_) (fun c107 => ?_)
                  · have hsn := of_decide_eq_false c107
                    refine fV_iinc (lv' := [(6, .int (i32 (i + 1))), (0, .ref (Γ.1 sc)), (1, .ref (Γ.1 k)), (2, .ref (Γ.1 k2)), (3, .int (i32 (max (I k 2) (I k2 2)))), (4, .int (i32 (min (sGone (I sc 4) (I sc 3) (I (sc + 2)) (I k)) (sGone (I sc 4) (I sc 3) (I (sc + 2)) (I k2)))))]) (pc' := 137) G 5 dX0_firstMeeting_134 rfl (by decide) rfl rfl ?_
                    refine fV_goto (tgt := 113) G dX0_firstMeeting_137 (by decide) ?_
                    refine fV_lv (lv' := [(0, .ref (Γ.1 sc)), (1, .ref (Γ.1 k)), (2, .ref (Γ.1 k2)), (3, .int (i32 (max (I k 2) (I k2 2)))), (4, .int (i32 (min (sGone (I sc 4) (I sc 3) (I (sc + 2)) (I k)) (sGone (I sc 4) (I sc 3) (I (sc + 2)) (I k2))))), (6, .int (i32 (i + 1)))]) [1, 2, 3, 4, 5, 0] rfl ?_
                    exact ih_lp _ (by omega) (i + 1) (by omega) (fun f z1 z2 z3 => by by_cases z : f = i; exact z ▸ hsn; exact hno f z1 (by omega) z3) rfl
                  · have hsh := of_decide_eq_true c107
                    refine fV_iload (pc' := 133) G 5 dX0_firstMeeting_131 rfl rfl ?_
                    refine fV_iret G dX0_firstMeeting_133 ?_
                    exact fE_i (sMeet_hit ⟨hput, hput2⟩ (by omega) (by omega) hsh hno).symm
            refine fV_lv (lv' := [(0, .ref (Γ.1 sc)), (1, .ref (Γ.1 k)), (2, .ref (Γ.1 k2)), (3, .int (i32 (max (I k 2) (I k2 2)))), (4, .int (i32 (min (sGone (I sc 4) (I sc 3) (I (sc + 2)) (I k)) (sGone (I sc 4) (I sc 3) (I (sc + 2)) (I k2))))), (6, .int (i32 (max ((max (I k 2) (I k2 2)) + 1) (min (I k 2 + I k 3 + I k 4) (I k2 2 + I k2 3 + I k2 4)))))]) [4, 5, 6, 3, 2, 0] rfl ?_
            exact lp _ (max (max (I k 2) (I k2 2) + 1) (min (I k 2 + I k 3 + I k 4) (I k2 2 + I k2 3 + I k2 4))) (by omega) (no_share hns) rfl
          · have hsh := of_decide_eq_true c5
            refine fV_iload_n (pc' := 89) G 1 dX0_firstMeeting_88 rfl rfl rfl ?_
            refine fV_iret G dX0_firstMeeting_89 ?_
            exact fE_i (sMeet_hit ⟨hput, hput2⟩ (Int.le_refl _) hlt hsh (fun f z1 z2 _ => by omega)).symm
      · refine fV_aload_n (pc' := 29) G 1 dX0_firstMeeting_28 rfl rfl rfl ?_
        refine fV_callVf (st' := [.int (i32 (fB (decide (I k 5 ≠ 3 ∧ I k 5 ≠ 4))))]) (n := 0) (k := k) (K := 2) (As := []) (rest := []) (pc' := 32) G (mX2_keepsLane l Γ hN I P hk (by have := hw; exact this.2.2.2.2.1)) kcX0_firstMeeting_124 hnk hk1 rfl rfl rfl (Nat.le_of_ble_eq_true rfl) (Nat.zero_le _) (Nat.zero_le _) dX0_firstMeeting_29 rfl rfl ?_
        refine fV_ifeq_b (tgt := 45) (pc' := 35) G dX0_firstMeeting_32 (by decide) rfl (fun c4 => ?_) (fun c4 => ?_)
        · refine fV_aload_n (pc' := 46) G 1 dX0_firstMeeting_45 rfl rfl rfl ?_
          refine fV_get (K := 2) (v := .int (i32 (I k 2))) (pc' := 49) G kfX0_firstMeeting_55 hnk hk1 rfl rfl dX0_firstMeeting_46 rfl ?_
          refine fV_aload_n (pc' := 50) G 2 dX0_firstMeeting_49 rfl rfl rfl ?_
          refine fV_get (K := 2) (v := .int (i32 (I k2 2))) (pc' := 53) G kfX0_firstMeeting_55 (by omega) hj1 rfl rfl dX0_firstMeeting_50 rfl ?_
          refine fV_mmax (pc' := 56) G kcX0_firstMeeting_120 ⟨Nat.le_of_ble_eq_true rfl, Nat.le_of_ble_eq_true rfl⟩ (Nat.zero_le _) (Nat.zero_le _) (by omega) (by omega) dX0_firstMeeting_53 rfl ?_
          refine fV_istore_n (lv' := [(3, .int (i32 (max (I k 2) (I k2 2)))), (0, .ref (Γ.1 sc)), (1, .ref (Γ.1 k)), (2, .ref (Γ.1 k2))]) (pc' := 57) G dX0_firstMeeting_56 rfl (by decide) rfl rfl ?_
          refine fV_aload_n (pc' := 58) G 1 dX0_firstMeeting_57 rfl rfl rfl ?_
          refine fV_aload_n (pc' := 59) G 2 dX0_firstMeeting_58 rfl rfl rfl ?_
          refine fV_callVf (st' := [.int (i32 (sGone (I sc 4) (I sc 3) (I (sc + 2)) (I k)))]) (n := 1) (k := sc) (K := 0) (As := [.ref (Γ.1 k)]) (rest := []) (pc' := 62) G (mX0_goneFrom l Γ hN I P hs hv hk hw (by assumption)) kcX0_firstMeeting_106 hn0 hs1 rfl rfl rfl (Nat.le_of_ble_eq_true rfl) (Nat.zero_le _) (Nat.zero_le _) dX0_firstMeeting_59 rfl rfl ?_
          refine fV_aload_n (pc' := 63) G 1 dX0_firstMeeting_62 rfl rfl rfl ?_
          refine fV_aload_n (pc' := 64) G 3 dX0_firstMeeting_63 rfl rfl rfl ?_
          refine fV_callVf (st' := [.int (i32 (sGone (I sc 4) (I sc 3) (I (sc + 2)) (I k2))), .int (i32 (sGone (I sc 4) (I sc 3) (I (sc + 2)) (I k)))]) (n := 1) (k := sc) (K := 0) (As := [.ref (Γ.1 k2)]) (rest := [.int (i32 (sGone (I sc 4) (I sc 3) (I (sc + 2)) (I k)))]) (pc' := 67) G (mX0_goneFrom l Γ hN I P hs hv hj hx (by assumption)) kcX0_firstMeeting_106 hn0 hs1 rfl rfl rfl (Nat.le_of_ble_eq_true rfl) (Nat.zero_le _) (Nat.zero_le _) dX0_firstMeeting_64 rfl rfl ?_
          refine fV_mmin (pc' := 70) G kcX0_firstMeeting_97 ⟨Nat.le_of_ble_eq_true rfl, Nat.le_of_ble_eq_true rfl⟩ (Nat.zero_le _) (Nat.zero_le _) (by omega) (by omega) dX0_firstMeeting_67 rfl ?_
          refine fV_istore (lv' := [(4, .int (i32 (min (sGone (I sc 4) (I sc 3) (I (sc + 2)) (I k)) (sGone (I sc 4) (I sc 3) (I (sc + 2)) (I k2))))), (3, .int (i32 (max (I k 2) (I k2 2)))), (0, .ref (Γ.1 sc)), (1, .ref (Γ.1 k)), (2, .ref (Γ.1 k2))]) (pc' := 72) G dX0_firstMeeting_70 (by decide) rfl rfl ?_
          refine fV_iload_n (pc' := 73) G 1 dX0_firstMeeting_72 rfl rfl rfl ?_
          refine fV_iload (pc' := 75) G 0 dX0_firstMeeting_73 rfl rfl ?_
          refine fV_icmp_ge (tgt := 90) (pc' := 78) G dX0_firstMeeting_75 (by decide) rfl (by omega) (by omega) (fun c5 => ?_) (fun c5 => ?_)
          · have hns : min (sGone (I sc 4) (I sc 3) (I (sc + 2)) (I k)) (sGone (I sc 4) (I sc 3) (I (sc + 2)) (I k2)) ≤ max (I k 2) (I k2 2) ∨ ¬ sShare (I sc 4) (I k) (I k2) (max (I k 2) (I k2 2)) := Or.inl c5
            refine fV_iload_n (pc' := 91) G 1 dX0_firstMeeting_90 rfl rfl rfl ?_
            refine fV_iconst (pc' := 92) G dX0_firstMeeting_91 rfl ?_
            refine fV_iadd (pc' := 93) G dX0_firstMeeting_92 rfl ?_
            refine fV_aload_n (pc' := 94) G 3 dX0_firstMeeting_93 rfl rfl rfl ?_
            refine fV_callVf (st' := [.int (i32 (I k 2 + I k 3 + I k 4)), .int (i32 ((max (I k 2) (I k2 2)) + 1))]) (n := 0) (k := k) (K := 2) (As := []) (rest := [.int (i32 ((max (I k 2) (I k2 2)) + 1))]) (pc' := 97) G (mX2_leavesIn l Γ hN I P hk) kcX0_firstMeeting_89 hnk hk1 rfl rfl rfl (Nat.le_of_ble_eq_true rfl) (Nat.zero_le _) (Nat.zero_le _) dX0_firstMeeting_94 rfl rfl ?_
            refine fV_aload_n (pc' := 98) G 4 dX0_firstMeeting_97 rfl rfl rfl ?_
            refine fV_callVf (st' := [.int (i32 (I k2 2 + I k2 3 + I k2 4)), .int (i32 (I k 2 + I k 3 + I k 4)), .int (i32 ((max (I k 2) (I k2 2)) + 1))]) (n := 0) (k := k2) (K := 2) (As := []) (rest := [.int (i32 (I k 2 + I k 3 + I k 4)), .int (i32 ((max (I k 2) (I k2 2)) + 1))]) (pc' := 101) G (mX2_leavesIn l Γ hN I P hj) kcX0_firstMeeting_89 (by omega) hj1 rfl rfl rfl (Nat.le_of_ble_eq_true rfl) (Nat.zero_le _) (Nat.zero_le _) dX0_firstMeeting_98 rfl rfl ?_
            refine fV_mmin (pc' := 104) G kcX0_firstMeeting_97 ⟨Nat.le_of_ble_eq_true rfl, Nat.le_of_ble_eq_true rfl⟩ (Nat.zero_le _) (Nat.zero_le _) (by omega) (by omega) dX0_firstMeeting_101 rfl ?_
            refine fV_mmax (pc' := 107) G kcX0_firstMeeting_120 ⟨Nat.le_of_ble_eq_true rfl, Nat.le_of_ble_eq_true rfl⟩ (Nat.zero_le _) (Nat.zero_le _) (by omega) (by omega) dX0_firstMeeting_104 rfl ?_
            refine fV_istore (lv' := [(5, .int (i32 (max ((max (I k 2) (I k2 2)) + 1) (min (I k 2 + I k 3 + I k 4) (I k2 2 + I k2 3 + I k2 4))))), (4, .int (i32 (min (sGone (I sc 4) (I sc 3) (I (sc + 2)) (I k)) (sGone (I sc 4) (I sc 3) (I (sc + 2)) (I k2))))), (3, .int (i32 (max (I k 2) (I k2 2)))), (0, .ref (Γ.1 sc)), (1, .ref (Γ.1 k)), (2, .ref (Γ.1 k2))]) (pc' := 109) G dX0_firstMeeting_107 (by decide) rfl rfl ?_
            refine fV_iload (pc' := 111) G 0 dX0_firstMeeting_109 rfl rfl ?_
            refine fV_istore (lv' := [(6, .int (i32 (max ((max (I k 2) (I k2 2)) + 1) (min (I k 2 + I k 3 + I k 4) (I k2 2 + I k2 3 + I k2 4))))), (5, .int (i32 (max ((max (I k 2) (I k2 2)) + 1) (min (I k 2 + I k 3 + I k 4) (I k2 2 + I k2 3 + I k2 4))))), (4, .int (i32 (min (sGone (I sc 4) (I sc 3) (I (sc + 2)) (I k)) (sGone (I sc 4) (I sc 3) (I (sc + 2)) (I k2))))), (3, .int (i32 (max (I k 2) (I k2 2)))), (0, .ref (Γ.1 sc)), (1, .ref (Γ.1 k)), (2, .ref (Γ.1 k2))]) (pc' := 113) G dX0_firstMeeting_111 (by decide) rfl rfl ?_
            have lp : ∀ (z : Nat) (i : Int), max (I k 2) (I k2 2) + 1 ≤ i ∧ i ≤ 5000 → (∀ f, max (I k 2) (I k2 2) ≤ f → f < i → f < min (sGone (I sc 4) (I sc 3) (I (sc + 2)) (I k)) (sGone (I sc 4) (I sc 3) (I (sc + 2)) (I k2)) → ¬ sShare (I sc 4) (I k) (I k2) f) → ((5000 - i).toNat) = z → fV p l e rmX0_firstMeeting s m args below meth c (MQ below (fQ Γ N (fE (some (.int (i32 (sMeet (I sc 4) (I sc 3) (I (sc + 2)) (I k) (I k2))))) I P)) args s 0 0 (fA Γ N)) (fA Γ N) Γ N 7 0 0 I P 113 [(0, .ref (Γ.1 sc)), (1, .ref (Γ.1 k)), (2, .ref (Γ.1 k2)), (3, .int (i32 (max (I k 2) (I k2 2)))), (4, .int (i32 (min (sGone (I sc 4) (I sc 3) (I (sc + 2)) (I k)) (sGone (I sc 4) (I sc 3) (I (sc + 2)) (I k2))))), (6, .int (i32 i))] [] := by
              intro z
              induction z using Nat.strongRecOn with
              | _ z ih_lp =>
                intro i hi hno hz_lp
                refine fV_iload (pc' := 115) G 5 dX0_firstMeeting_113 rfl rfl ?_
                refine fV_iload (pc' := 117) G 4 dX0_firstMeeting_115 rfl rfl ?_
                refine fV_icmp_ge (tgt := 140) (pc' := 120) G dX0_firstMeeting_117 (by decide) rfl (by omega) (by omega) (fun c106 => ?_) (fun c106 => ?_)
                · refine fV_bipush (n := -19) (pc' := 142) G dX0_firstMeeting_140 rfl rfl ?_
                  refine fV_iret G dX0_firstMeeting_142 ?_
                  exact fE_i (sMeet_end (by omega) hno).symm
                · refine fV_aload_n (pc' := 121) G 0 dX0_firstMeeting_120 rfl rfl rfl ?_
                  refine fV_aload_n (pc' := 122) G 1 dX0_firstMeeting_121 rfl rfl rfl ?_
                  refine fV_aload_n (pc' := 123) G 2 dX0_firstMeeting_122 rfl rfl rfl ?_
                  refine fV_iload (pc' := 125) G 5 dX0_firstMeeting_123 rfl rfl ?_
                  refine fV_callVf (st' := [.int (i32 (fB (decide (sShare (I sc 4) (I k) (I k2) i))))]) (n := 3) (k := sc) (K := 0) (As := [.ref (Γ.1 k), .ref (Γ.1 k2), .int (i32 i)]) (rest := []) (pc' := 128) G (mX0_shareCell l Γ hN I P hs hv4 hk hw hj hx i (by omega) (by assumption) (by assumption)) kcX0_firstMeeting_128 hn0 hs1 rfl rfl rfl (Nat.le_of_ble_eq_true rfl) (Nat.zero_le _) (Nat.zero_le _) dX0_firstMeeting_125 rfl rfl ?_
                  refine fV_ifeq_b (tgt := 134) (pc' := 131) G dX0_firstMeeting_128 (by decide) rfl (fun c107 => ?_) (fun c107 => ?_)
                  · have hsn := of_decide_eq_false c107
                    refine fV_iinc (lv' := [(6, .int (i32 (i + 1))), (0, .ref (Γ.1 sc)), (1, .ref (Γ.1 k)), (2, .ref (Γ.1 k2)), (3, .int (i32 (max (I k 2) (I k2 2)))), (4, .int (i32 (min (sGone (I sc 4) (I sc 3) (I (sc + 2)) (I k)) (sGone (I sc 4) (I sc 3) (I (sc + 2)) (I k2)))))]) (pc' := 137) G 5 dX0_firstMeeting_134 rfl (by decide) rfl rfl ?_
                    refine fV_goto (tgt := 113) G dX0_firstMeeting_137 (by decide) ?_
                    refine fV_lv (lv' := [(0, .ref (Γ.1 sc)), (1, .ref (Γ.1 k)), (2, .ref (Γ.1 k2)), (3, .int (i32 (max (I k 2) (I k2 2)))), (4, .int (i32 (min (sGone (I sc 4) (I sc 3) (I (sc + 2)) (I k)) (sGone (I sc 4) (I sc 3) (I (sc + 2)) (I k2))))), (6, .int (i32 (i + 1)))]) [1, 2, 3, 4, 5, 0] rfl ?_
                    exact ih_lp _ (by omega) (i + 1) (by omega) (fun f z1 z2 z3 => by by_cases z : f = i; exact z ▸ hsn; exact hno f z1 (by omega) z3) rfl
                  · have hsh := of_decide_eq_true c107
                    refine fV_iload (pc' := 133) G 5 dX0_firstMeeting_131 rfl rfl ?_
                    refine fV_iret G dX0_firstMeeting_133 ?_
                    exact fE_i (sMeet_hit ⟨hput, hput2⟩ (by omega) (by omega) hsh hno).symm
            refine fV_lv (lv' := [(0, .ref (Γ.1 sc)), (1, .ref (Γ.1 k)), (2, .ref (Γ.1 k2)), (3, .int (i32 (max (I k 2) (I k2 2)))), (4, .int (i32 (min (sGone (I sc 4) (I sc 3) (I (sc + 2)) (I k)) (sGone (I sc 4) (I sc 3) (I (sc + 2)) (I k2))))), (6, .int (i32 (max ((max (I k 2) (I k2 2)) + 1) (min (I k 2 + I k 3 + I k 4) (I k2 2 + I k2 3 + I k2 4)))))]) [4, 5, 6, 3, 2, 0] rfl ?_
            exact lp _ (max (max (I k 2) (I k2 2) + 1) (min (I k 2 + I k 3 + I k 4) (I k2 2 + I k2 3 + I k2 4))) (by omega) (no_share hns) rfl
          · have hlt : max (I k 2) (I k2 2) < min (sGone (I sc 4) (I sc 3) (I (sc + 2)) (I k)) (sGone (I sc 4) (I sc 3) (I (sc + 2)) (I k2)) := by omega
            refine fV_aload_n (pc' := 79) G 2 dX0_firstMeeting_78 rfl rfl rfl ?_
            refine fV_aload_n (pc' := 80) G 3 dX0_firstMeeting_79 rfl rfl rfl ?_
            refine fV_aload_n (pc' := 81) G 4 dX0_firstMeeting_80 rfl rfl rfl ?_
            refine fV_iload_n (pc' := 82) G 1 dX0_firstMeeting_81 rfl rfl rfl ?_
            refine fV_callVf (st' := [.int (i32 (fB (decide (sShare (I sc 4) (I k) (I k2) (max (I k 2) (I k2 2))))))]) (n := 3) (k := sc) (K := 0) (As := [.ref (Γ.1 k), .ref (Γ.1 k2), .int (i32 (max (I k 2) (I k2 2)))]) (rest := []) (pc' := 85) G (mX0_shareCell l Γ hN I P hs hv4 hk hw hj hx (max (I k 2) (I k2 2)) (by omega) (by assumption) (by assumption)) kcX0_firstMeeting_128 hn0 hs1 rfl rfl rfl (Nat.le_of_ble_eq_true rfl) (Nat.zero_le _) (Nat.zero_le _) dX0_firstMeeting_82 rfl rfl ?_
            refine fV_ifeq_b (tgt := 90) (pc' := 88) G dX0_firstMeeting_85 (by decide) rfl (fun c6 => ?_) (fun c6 => ?_)
            · have hns : min (sGone (I sc 4) (I sc 3) (I (sc + 2)) (I k)) (sGone (I sc 4) (I sc 3) (I (sc + 2)) (I k2)) ≤ max (I k 2) (I k2 2) ∨ ¬ sShare (I sc 4) (I k) (I k2) (max (I k 2) (I k2 2)) := Or.inr (of_decide_eq_false c6)
              refine fV_iload_n (pc' := 91) G 1 dX0_firstMeeting_90 rfl rfl rfl ?_
              refine fV_iconst (pc' := 92) G dX0_firstMeeting_91 rfl ?_
              refine fV_iadd (pc' := 93) G dX0_firstMeeting_92 rfl ?_
              refine fV_aload_n (pc' := 94) G 3 dX0_firstMeeting_93 rfl rfl rfl ?_
              refine fV_callVf (st' := [.int (i32 (I k 2 + I k 3 + I k 4)), .int (i32 ((max (I k 2) (I k2 2)) + 1))]) (n := 0) (k := k) (K := 2) (As := []) (rest := [.int (i32 ((max (I k 2) (I k2 2)) + 1))]) (pc' := 97) G (mX2_leavesIn l Γ hN I P hk) kcX0_firstMeeting_89 hnk hk1 rfl rfl rfl (Nat.le_of_ble_eq_true rfl) (Nat.zero_le _) (Nat.zero_le _) dX0_firstMeeting_94 rfl rfl ?_
              refine fV_aload_n (pc' := 98) G 4 dX0_firstMeeting_97 rfl rfl rfl ?_
              refine fV_callVf (st' := [.int (i32 (I k2 2 + I k2 3 + I k2 4)), .int (i32 (I k 2 + I k 3 + I k 4)), .int (i32 ((max (I k 2) (I k2 2)) + 1))]) (n := 0) (k := k2) (K := 2) (As := []) (rest := [.int (i32 (I k 2 + I k 3 + I k 4)), .int (i32 ((max (I k 2) (I k2 2)) + 1))]) (pc' := 101) G (mX2_leavesIn l Γ hN I P hj) kcX0_firstMeeting_89 (by omega) hj1 rfl rfl rfl (Nat.le_of_ble_eq_true rfl) (Nat.zero_le _) (Nat.zero_le _) dX0_firstMeeting_98 rfl rfl ?_
              refine fV_mmin (pc' := 104) G kcX0_firstMeeting_97 ⟨Nat.le_of_ble_eq_true rfl, Nat.le_of_ble_eq_true rfl⟩ (Nat.zero_le _) (Nat.zero_le _) (by omega) (by omega) dX0_firstMeeting_101 rfl ?_
              refine fV_mmax (pc' := 107) G kcX0_firstMeeting_120 ⟨Nat.le_of_ble_eq_true rfl, Nat.le_of_ble_eq_true rfl⟩ (Nat.zero_le _) (Nat.zero_le _) (by omega) (by omega) dX0_firstMeeting_104 rfl ?_
              refine fV_istore (lv' := [(5, .int (i32 (max ((max (I k 2) (I k2 2)) + 1) (min (I k 2 + I k 3 + I k 4) (I k2 2 + I k2 3 + I k2 4))))), (4, .int (i32 (min (sGone (I sc 4) (I sc 3) (I (sc + 2)) (I k)) (sGone (I sc 4) (I sc 3) (I (sc + 2)) (I k2))))), (3, .int (i32 (max (I k 2) (I k2 2)))), (0, .ref (Γ.1 sc)), (1, .ref (Γ.1 k)), (2, .ref (Γ.1 k2))]) (pc' := 109) G dX0_firstMeeting_107 (by decide) rfl rfl ?_
              refine fV_iload (pc' := 111) G 0 dX0_firstMeeting_109 rfl rfl ?_
              refine fV_istore (lv' := [(6, .int (i32 (max ((max (I k 2) (I k2 2)) + 1) (min (I k 2 + I k 3 + I k 4) (I k2 2 + I k2 3 + I k2 4))))), (5, .int (i32 (max ((max (I k 2) (I k2 2)) + 1) (min (I k 2 + I k 3 + I k 4) (I k2 2 + I k2 3 + I k2 4))))), (4, .int (i32 (min (sGone (I sc 4) (I sc 3) (I (sc + 2)) (I k)) (sGone (I sc 4) (I sc 3) (I (sc + 2)) (I k2))))), (3, .int (i32 (max (I k 2) (I k2 2)))), (0, .ref (Γ.1 sc)), (1, .ref (Γ.1 k)), (2, .ref (Γ.1 k2))]) (pc' := 113) G dX0_firstMeeting_111 (by decide) rfl rfl ?_
              have lp : ∀ (z : Nat) (i : Int), max (I k 2) (I k2 2) + 1 ≤ i ∧ i ≤ 5000 → (∀ f, max (I k 2) (I k2 2) ≤ f → f < i → f < min (sGone (I sc 4) (I sc 3) (I (sc + 2)) (I k)) (sGone (I sc 4) (I sc 3) (I (sc + 2)) (I k2)) → ¬ sShare (I sc 4) (I k) (I k2) f) → ((5000 - i).toNat) = z → fV p l e rmX0_firstMeeting s m args below meth c (MQ below (fQ Γ N (fE (some (.int (i32 (sMeet (I sc 4) (I sc 3) (I (sc + 2)) (I k) (I k2))))) I P)) args s 0 0 (fA Γ N)) (fA Γ N) Γ N 7 0 0 I P 113 [(0, .ref (Γ.1 sc)), (1, .ref (Γ.1 k)), (2, .ref (Γ.1 k2)), (3, .int (i32 (max (I k 2) (I k2 2)))), (4, .int (i32 (min (sGone (I sc 4) (I sc 3) (I (sc + 2)) (I k)) (sGone (I sc 4) (I sc 3) (I (sc + 2)) (I k2))))), (6, .int (i32 i))] [] := by
                intro z
                induction z using Nat.strongRecOn with
                | _ z ih_lp =>
                  intro i hi hno hz_lp
                  refine fV_iload (pc' := 115) G 5 dX0_firstMeeting_113 rfl rfl ?_
                  refine fV_iload (pc' := 117) G 4 dX0_firstMeeting_115 rfl rfl ?_
                  refine fV_icmp_ge (tgt := 140) (pc' := 120) G dX0_firstMeeting_117 (by decide) rfl (by omega) (by omega) (fun c107 => ?_) (fun c107 => ?_)
                  · refine fV_bipush (n := -19) (pc' := 142) G dX0_firstMeeting_140 rfl rfl ?_
                    refine fV_iret G dX0_firstMeeting_142 ?_
                    exact fE_i (sMeet_end (by omega) hno).symm
                  · refine fV_aload_n (pc' := 121) G 0 dX0_firstMeeting_120 rfl rfl rfl ?_
                    refine fV_aload_n (pc' := 122) G 1 dX0_firstMeeting_121 rfl rfl rfl ?_
                    refine fV_aload_n (pc' := 123) G 2 dX0_firstMeeting_122 rfl rfl rfl ?_
                    refine fV_iload (pc' := 125) G 5 dX0_firstMeeting_123 rfl rfl ?_
                    refine fV_callVf (st' := [.int (i32 (fB (decide (sShare (I sc 4) (I k) (I k2) i))))]) (n := 3) (k := sc) (K := 0) (As := [.ref (Γ.1 k), .ref (Γ.1 k2), .int (i32 i)]) (rest := []) (pc' := 128) G (mX0_shareCell l Γ hN I P hs hv4 hk hw hj hx i (by omega) (by assumption) (by assumption)) kcX0_firstMeeting_128 hn0 hs1 rfl rfl rfl (Nat.le_of_ble_eq_true rfl) (Nat.zero_le _) (Nat.zero_le _) dX0_firstMeeting_125 rfl rfl ?_
                    refine fV_ifeq_b (tgt := 134) (pc' := 131) G dX0_firstMeeting_128 (by decide) rfl (fun c108 => ?_) (fun c108 => ?_)
                    · have hsn := of_decide_eq_false c108
                      refine fV_iinc (lv' := [(6, .int (i32 (i + 1))), (0, .ref (Γ.1 sc)), (1, .ref (Γ.1 k)), (2, .ref (Γ.1 k2)), (3, .int (i32 (max (I k 2) (I k2 2)))), (4, .int (i32 (min (sGone (I sc 4) (I sc 3) (I (sc + 2)) (I k)) (sGone (I sc 4) (I sc 3) (I (sc + 2)) (I k2)))))]) (pc' := 137) G 5 dX0_firstMeeting_134 rfl (by decide) rfl rfl ?_
                      refine fV_goto (tgt := 113) G dX0_firstMeeting_137 (by decide) ?_
                      refine fV_lv (lv' := [(0, .ref (Γ.1 sc)), (1, .ref (Γ.1 k)), (2, .ref (Γ.1 k2)), (3, .int (i32 (max (I k 2) (I k2 2)))), (4, .int (i32 (min (sGone (I sc 4) (I sc 3) (I (sc + 2)) (I k)) (sGone (I sc 4) (I sc 3) (I (sc + 2)) (I k2))))), (6, .int (i32 (i + 1)))]) [1, 2, 3, 4, 5, 0] rfl ?_
                      exact ih_lp _ (by omega) (i + 1) (by omega) (fun f z1 z2 z3 => by by_cases z : f = i; exact z ▸ hsn; exact hno f z1 (by omega) z3) rfl
                    · have hsh := of_decide_eq_true c108
                      refine fV_iload (pc' := 133) G 5 dX0_firstMeeting_131 rfl rfl ?_
                      refine fV_iret G dX0_firstMeeting_133 ?_
                      exact fE_i (sMeet_hit ⟨hput, hput2⟩ (by omega) (by omega) hsh hno).symm
              refine fV_lv (lv' := [(0, .ref (Γ.1 sc)), (1, .ref (Γ.1 k)), (2, .ref (Γ.1 k2)), (3, .int (i32 (max (I k 2) (I k2 2)))), (4, .int (i32 (min (sGone (I sc 4) (I sc 3) (I (sc + 2)) (I k)) (sGone (I sc 4) (I sc 3) (I (sc + 2)) (I k2))))), (6, .int (i32 (max ((max (I k 2) (I k2 2)) + 1) (min (I k 2 + I k 3 + I k 4) (I k2 2 + I k2 3 + I k2 4)))))]) [4, 5, 6, 3, 2, 0] rfl ?_
              exact lp _ (max (max (I k 2) (I k2 2) + 1) (min (I k 2 + I k 3 + I k 4) (I k2 2 + I k2 3 + I k2 4))) (by omega) (no_share hns) rfl
            · have hsh := of_decide_eq_true c6
              refine fV_iload_n (pc' := 89) G 1 dX0_firstMeeting_88 rfl rfl rfl ?_
              refine fV_iret G dX0_firstMeeting_89 ?_
              exact fE_i (sMeet_hit ⟨hput, hput2⟩ (Int.le_refl _) hlt hsh (fun f z1 z2 _ => by omega)).symm
        · have hka := c4
          refine fV_aload_n (pc' := 36) G 2 dX0_firstMeeting_35 rfl rfl rfl ?_
          refine fV_callVf (st' := [.int (i32 (fB (decide (I k2 5 ≠ 3 ∧ I k2 5 ≠ 4))))]) (n := 0) (k := k2) (K := 2) (As := []) (rest := []) (pc' := 39) G (mX2_keepsLane l Γ hN I P hj (by have := hx; exact this.2.2.2.2.1)) kcX0_firstMeeting_124 (by omega) hj1 rfl rfl rfl (Nat.le_of_ble_eq_true rfl) (Nat.zero_le _) (Nat.zero_le _) dX0_firstMeeting_36 rfl rfl ?_
          refine fV_ifeq_b (tgt := 45) (pc' := 42) G dX0_firstMeeting_39 (by decide) rfl (fun c5 => ?_) (fun c5 => ?_)
          · refine fV_aload_n (pc' := 46) G 1 dX0_firstMeeting_45 rfl rfl rfl ?_
            refine fV_get (K := 2) (v := .int (i32 (I k 2))) (pc' := 49) G kfX0_firstMeeting_55 hnk hk1 rfl rfl dX0_firstMeeting_46 rfl ?_
            refine fV_aload_n (pc' := 50) G 2 dX0_firstMeeting_49 rfl rfl rfl ?_
            refine fV_get (K := 2) (v := .int (i32 (I k2 2))) (pc' := 53) G kfX0_firstMeeting_55 (by omega) hj1 rfl rfl dX0_firstMeeting_50 rfl ?_
            refine fV_mmax (pc' := 56) G kcX0_firstMeeting_120 ⟨Nat.le_of_ble_eq_true rfl, Nat.le_of_ble_eq_true rfl⟩ (Nat.zero_le _) (Nat.zero_le _) (by omega) (by omega) dX0_firstMeeting_53 rfl ?_
            refine fV_istore_n (lv' := [(3, .int (i32 (max (I k 2) (I k2 2)))), (0, .ref (Γ.1 sc)), (1, .ref (Γ.1 k)), (2, .ref (Γ.1 k2))]) (pc' := 57) G dX0_firstMeeting_56 rfl (by decide) rfl rfl ?_
            refine fV_aload_n (pc' := 58) G 1 dX0_firstMeeting_57 rfl rfl rfl ?_
            refine fV_aload_n (pc' := 59) G 2 dX0_firstMeeting_58 rfl rfl rfl ?_
            refine fV_callVf (st' := [.int (i32 (sGone (I sc 4) (I sc 3) (I (sc + 2)) (I k)))]) (n := 1) (k := sc) (K := 0) (As := [.ref (Γ.1 k)]) (rest := []) (pc' := 62) G (mX0_goneFrom l Γ hN I P hs hv hk hw (by assumption)) kcX0_firstMeeting_106 hn0 hs1 rfl rfl rfl (Nat.le_of_ble_eq_true rfl) (Nat.zero_le _) (Nat.zero_le _) dX0_firstMeeting_59 rfl rfl ?_
            refine fV_aload_n (pc' := 63) G 1 dX0_firstMeeting_62 rfl rfl rfl ?_
            refine fV_aload_n (pc' := 64) G 3 dX0_firstMeeting_63 rfl rfl rfl ?_
            refine fV_callVf (st' := [.int (i32 (sGone (I sc 4) (I sc 3) (I (sc + 2)) (I k2))), .int (i32 (sGone (I sc 4) (I sc 3) (I (sc + 2)) (I k)))]) (n := 1) (k := sc) (K := 0) (As := [.ref (Γ.1 k2)]) (rest := [.int (i32 (sGone (I sc 4) (I sc 3) (I (sc + 2)) (I k)))]) (pc' := 67) G (mX0_goneFrom l Γ hN I P hs hv hj hx (by assumption)) kcX0_firstMeeting_106 hn0 hs1 rfl rfl rfl (Nat.le_of_ble_eq_true rfl) (Nat.zero_le _) (Nat.zero_le _) dX0_firstMeeting_64 rfl rfl ?_
            refine fV_mmin (pc' := 70) G kcX0_firstMeeting_97 ⟨Nat.le_of_ble_eq_true rfl, Nat.le_of_ble_eq_true rfl⟩ (Nat.zero_le _) (Nat.zero_le _) (by omega) (by omega) dX0_firstMeeting_67 rfl ?_
            refine fV_istore (lv' := [(4, .int (i32 (min (sGone (I sc 4) (I sc 3) (I (sc + 2)) (I k)) (sGone (I sc 4) (I sc 3) (I (sc + 2)) (I k2))))), (3, .int (i32 (max (I k 2) (I k2 2)))), (0, .ref (Γ.1 sc)), (1, .ref (Γ.1 k)), (2, .ref (Γ.1 k2))]) (pc' := 72) G dX0_firstMeeting_70 (by decide) rfl rfl ?_
            refine fV_iload_n (pc' := 73) G 1 dX0_firstMeeting_72 rfl rfl rfl ?_
            refine fV_iload (pc' := 75) G 0 dX0_firstMeeting_73 rfl rfl ?_
            refine fV_icmp_ge (tgt := 90) (pc' := 78) G dX0_firstMeeting_75 (by decide) rfl (by omega) (by omega) (fun c6 => ?_) (fun c6 => ?_)
            · have hns : min (sGone (I sc 4) (I sc 3) (I (sc + 2)) (I k)) (sGone (I sc 4) (I sc 3) (I (sc + 2)) (I k2)) ≤ max (I k 2) (I k2 2) ∨ ¬ sShare (I sc 4) (I k) (I k2) (max (I k 2) (I k2 2)) := Or.inl c6
              refine fV_iload_n (pc' := 91) G 1 dX0_firstMeeting_90 rfl rfl rfl ?_
              refine fV_iconst (pc' := 92) G dX0_firstMeeting_91 rfl ?_
              refine fV_iadd (pc' := 93) G dX0_firstMeeting_92 rfl ?_
              refine fV_aload_n (pc' := 94) G 3 dX0_firstMeeting_93 rfl rfl rfl ?_
              refine fV_callVf (st' := [.int (i32 (I k 2 + I k 3 + I k 4)), .int (i32 ((max (I k 2) (I k2 2)) + 1))]) (n := 0) (k := k) (K := 2) (As := []) (rest := [.int (i32 ((max (I k 2) (I k2 2)) + 1))]) (pc' := 97) G (mX2_leavesIn l Γ hN I P hk) kcX0_firstMeeting_89 hnk hk1 rfl rfl rfl (Nat.le_of_ble_eq_true rfl) (Nat.zero_le _) (Nat.zero_le _) dX0_firstMeeting_94 rfl rfl ?_
              refine fV_aload_n (pc' := 98) G 4 dX0_firstMeeting_97 rfl rfl rfl ?_
              refine fV_callVf (st' := [.int (i32 (I k2 2 + I k2 3 + I k2 4)), .int (i32 (I k 2 + I k 3 + I k 4)), .int (i32 ((max (I k 2) (I k2 2)) + 1))]) (n := 0) (k := k2) (K := 2) (As := []) (rest := [.int (i32 (I k 2 + I k 3 + I k 4)), .int (i32 ((max (I k 2) (I k2 2)) + 1))]) (pc' := 101) G (mX2_leavesIn l Γ hN I P hj) kcX0_firstMeeting_89 (by omega) hj1 rfl rfl rfl (Nat.le_of_ble_eq_true rfl) (Nat.zero_le _) (Nat.zero_le _) dX0_firstMeeting_98 rfl rfl ?_
              refine fV_mmin (pc' := 104) G kcX0_firstMeeting_97 ⟨Nat.le_of_ble_eq_true rfl, Nat.le_of_ble_eq_true rfl⟩ (Nat.zero_le _) (Nat.zero_le _) (by omega) (by omega) dX0_firstMeeting_101 rfl ?_
              refine fV_mmax (pc' := 107) G kcX0_firstMeeting_120 ⟨Nat.le_of_ble_eq_true rfl, Nat.le_of_ble_eq_true rfl⟩ (Nat.zero_le _) (Nat.zero_le _) (by omega) (by omega) dX0_firstMeeting_104 rfl ?_
              refine fV_istore (lv' := [(5, .int (i32 (max ((max (I k 2) (I k2 2)) + 1) (min (I k 2 + I k 3 + I k 4) (I k2 2 + I k2 3 + I k2 4))))), (4, .int (i32 (min (sGone (I sc 4) (I sc 3) (I (sc + 2)) (I k)) (sGone (I sc 4) (I sc 3) (I (sc + 2)) (I k2))))), (3, .int (i32 (max (I k 2) (I k2 2)))), (0, .ref (Γ.1 sc)), (1, .ref (Γ.1 k)), (2, .ref (Γ.1 k2))]) (pc' := 109) G dX0_firstMeeting_107 (by decide) rfl rfl ?_
              refine fV_iload (pc' := 111) G 0 dX0_firstMeeting_109 rfl rfl ?_
              refine fV_istore (lv' := [(6, .int (i32 (max ((max (I k 2) (I k2 2)) + 1) (min (I k 2 + I k 3 + I k 4) (I k2 2 + I k2 3 + I k2 4))))), (5, .int (i32 (max ((max (I k 2) (I k2 2)) + 1) (min (I k 2 + I k 3 + I k 4) (I k2 2 + I k2 3 + I k2 4))))), (4, .int (i32 (min (sGone (I sc 4) (I sc 3) (I (sc + 2)) (I k)) (sGone (I sc 4) (I sc 3) (I (sc + 2)) (I k2))))), (3, .int (i32 (max (I k 2) (I k2 2)))), (0, .ref (Γ.1 sc)), (1, .ref (Γ.1 k)), (2, .ref (Γ.1 k2))]) (pc' := 113) G dX0_firstMeeting_111 (by decide) rfl rfl ?_
              have lp : ∀ (z : Nat) (i : Int), max (I k 2) (I k2 2) + 1 ≤ i ∧ i ≤ 5000 → (∀ f, max (I k 2) (I k2 2) ≤ f → f < i → f < min (sGone (I sc 4) (I sc 3) (I (sc + 2)) (I k)) (sGone (I sc 4) (I sc 3) (I (sc + 2)) (I k2)) → ¬ sShare (I sc 4) (I k) (I k2) f) → ((5000 - i).toNat) = z → fV p l e rmX0_firstMeeting s m args below meth c (MQ below (fQ Γ N (fE (some (.int (i32 (sMeet (I sc 4) (I sc 3) (I (sc + 2)) (I k) (I k2))))) I P)) args s 0 0 (fA Γ N)) (fA Γ N) Γ N 7 0 0 I P 113 [(0, .ref (Γ.1 sc)), (1, .ref (Γ.1 k)), (2, .ref (Γ.1 k2)), (3, .int (i32 (max (I k 2) (I k2 2)))), (4, .int (i32 (min (sGone (I sc 4) (I sc 3) (I (sc + 2)) (I k)) (sGone (I sc 4) (I sc 3) (I (sc + 2)) (I k2))))), (6, .int (i32 i))] [] := by
                intro z
                induction z using Nat.strongRecOn with
                | _ z ih_lp =>
                  intro i hi hno hz_lp
                  refine fV_iload (pc' := 115) G 5 dX0_firstMeeting_113 rfl rfl ?_
                  refine fV_iload (pc' := 117) G 4 dX0_firstMeeting_115 rfl rfl ?_
                  refine fV_icmp_ge (tgt := 140) (pc' := 120) G dX0_firstMeeting_117 (by decide) rfl (by omega) (by omega) (fun c107 => ?_) (fun c107 => ?_)
                  · refine fV_bipush (n := -19) (pc' := 142) G dX0_firstMeeting_140 rfl rfl ?_
                    refine fV_iret G dX0_firstMeeting_142 ?_
                    exact fE_i (sMeet_end (by omega) hno).symm
                  · refine fV_aload_n (pc' := 121) G 0 dX0_firstMeeting_120 rfl rfl rfl ?_
                    refine fV_aload_n (pc' := 122) G 1 dX0_firstMeeting_121 rfl rfl rfl ?_
                    refine fV_aload_n (pc' := 123) G 2 dX0_firstMeeting_122 rfl rfl rfl ?_
                    refine fV_iload (pc' := 125) G 5 dX0_firstMeeting_123 rfl rfl ?_
                    refine fV_callVf (st' := [.int (i32 (fB (decide (sShare (I sc 4) (I k) (I k2) i))))]) (n := 3) (k := sc) (K := 0) (As := [.ref (Γ.1 k), .ref (Γ.1 k2), .int (i32 i)]) (rest := []) (pc' := 128) G (mX0_shareCell l Γ hN I P hs hv4 hk hw hj hx i (by omega) (by assumption) (by assumption)) kcX0_firstMeeting_128 hn0 hs1 rfl rfl rfl (Nat.le_of_ble_eq_true rfl) (Nat.zero_le _) (Nat.zero_le _) dX0_firstMeeting_125 rfl rfl ?_
                    refine fV_ifeq_b (tgt := 134) (pc' := 131) G dX0_firstMeeting_128 (by decide) rfl (fun c108 => ?_) (fun c108 => ?_)
                    · have hsn := of_decide_eq_false c108
                      refine fV_iinc (lv' := [(6, .int (i32 (i + 1))), (0, .ref (Γ.1 sc)), (1, .ref (Γ.1 k)), (2, .ref (Γ.1 k2)), (3, .int (i32 (max (I k 2) (I k2 2)))), (4, .int (i32 (min (sGone (I sc 4) (I sc 3) (I (sc + 2)) (I k)) (sGone (I sc 4) (I sc 3) (I (sc + 2)) (I k2)))))]) (pc' := 137) G 5 dX0_firstMeeting_134 rfl (by decide) rfl rfl ?_
                      refine fV_goto (tgt := 113) G dX0_firstMeeting_137 (by decide) ?_
                      refine fV_lv (lv' := [(0, .ref (Γ.1 sc)), (1, .ref (Γ.1 k)), (2, .ref (Γ.1 k2)), (3, .int (i32 (max (I k 2) (I k2 2)))), (4, .int (i32 (min (sGone (I sc 4) (I sc 3) (I (sc + 2)) (I k)) (sGone (I sc 4) (I sc 3) (I (sc + 2)) (I k2))))), (6, .int (i32 (i + 1)))]) [1, 2, 3, 4, 5, 0] rfl ?_
                      exact ih_lp _ (by omega) (i + 1) (by omega) (fun f z1 z2 z3 => by by_cases z : f = i; exact z ▸ hsn; exact hno f z1 (by omega) z3) rfl
                    · have hsh := of_decide_eq_true c108
                      refine fV_iload (pc' := 133) G 5 dX0_firstMeeting_131 rfl rfl ?_
                      refine fV_iret G dX0_firstMeeting_133 ?_
                      exact fE_i (sMeet_hit ⟨hput, hput2⟩ (by omega) (by omega) hsh hno).symm
              refine fV_lv (lv' := [(0, .ref (Γ.1 sc)), (1, .ref (Γ.1 k)), (2, .ref (Γ.1 k2)), (3, .int (i32 (max (I k 2) (I k2 2)))), (4, .int (i32 (min (sGone (I sc 4) (I sc 3) (I (sc + 2)) (I k)) (sGone (I sc 4) (I sc 3) (I (sc + 2)) (I k2))))), (6, .int (i32 (max ((max (I k 2) (I k2 2)) + 1) (min (I k 2 + I k 3 + I k 4) (I k2 2 + I k2 3 + I k2 4)))))]) [4, 5, 6, 3, 2, 0] rfl ?_
              exact lp _ (max (max (I k 2) (I k2 2) + 1) (min (I k 2 + I k 3 + I k 4) (I k2 2 + I k2 3 + I k2 4))) (by omega) (no_share hns) rfl
            · have hlt : max (I k 2) (I k2 2) < min (sGone (I sc 4) (I sc 3) (I (sc + 2)) (I k)) (sGone (I sc 4) (I sc 3) (I (sc + 2)) (I k2)) := by omega
              refine fV_aload_n (pc' := 79) G 2 dX0_firstMeeting_78 rfl rfl rfl ?_
              refine fV_aload_n (pc' := 80) G 3 dX0_firstMeeting_79 rfl rfl rfl ?_
              refine fV_aload_n (pc' := 81) G 4 dX0_firstMeeting_80 rfl rfl rfl ?_
              refine fV_iload_n (pc' := 82) G 1 dX0_firstMeeting_81 rfl rfl rfl ?_
              refine fV_callVf (st' := [.int (i32 (fB (decide (sShare (I sc 4) (I k) (I k2) (max (I k 2) (I k2 2))))))]) (n := 3) (k := sc) (K := 0) (As := [.ref (Γ.1 k), .ref (Γ.1 k2), .int (i32 (max (I k 2) (I k2 2)))]) (rest := []) (pc' := 85) G (mX0_shareCell l Γ hN I P hs hv4 hk hw hj hx (max (I k 2) (I k2 2)) (by omega) (by assumption) (by assumption)) kcX0_firstMeeting_128 hn0 hs1 rfl rfl rfl (Nat.le_of_ble_eq_true rfl) (Nat.zero_le _) (Nat.zero_le _) dX0_firstMeeting_82 rfl rfl ?_
              refine fV_ifeq_b (tgt := 90) (pc' := 88) G dX0_firstMeeting_85 (by decide) rfl (fun c7 => ?_) (fun c7 => ?_)
              · have hns : min (sGone (I sc 4) (I sc 3) (I (sc + 2)) (I k)) (sGone (I sc 4) (I sc 3) (I (sc + 2)) (I k2)) ≤ max (I k 2) (I k2 2) ∨ ¬ sShare (I sc 4) (I k) (I k2) (max (I k 2) (I k2 2)) := Or.inr (of_decide_eq_false c7)
                refine fV_iload_n (pc' := 91) G 1 dX0_firstMeeting_90 rfl rfl rfl ?_
                refine fV_iconst (pc' := 92) G dX0_firstMeeting_91 rfl ?_
                refine fV_iadd (pc' := 93) G dX0_firstMeeting_92 rfl ?_
                refine fV_aload_n (pc' := 94) G 3 dX0_firstMeeting_93 rfl rfl rfl ?_
                refine fV_callVf (st' := [.int (i32 (I k 2 + I k 3 + I k 4)), .int (i32 ((max (I k 2) (I k2 2)) + 1))]) (n := 0) (k := k) (K := 2) (As := []) (rest := [.int (i32 ((max (I k 2) (I k2 2)) + 1))]) (pc' := 97) G (mX2_leavesIn l Γ hN I P hk) kcX0_firstMeeting_89 hnk hk1 rfl rfl rfl (Nat.le_of_ble_eq_true rfl) (Nat.zero_le _) (Nat.zero_le _) dX0_firstMeeting_94 rfl rfl ?_
                refine fV_aload_n (pc' := 98) G 4 dX0_firstMeeting_97 rfl rfl rfl ?_
                refine fV_callVf (st' := [.int (i32 (I k2 2 + I k2 3 + I k2 4)), .int (i32 (I k 2 + I k 3 + I k 4)), .int (i32 ((max (I k 2) (I k2 2)) + 1))]) (n := 0) (k := k2) (K := 2) (As := []) (rest := [.int (i32 (I k 2 + I k 3 + I k 4)), .int (i32 ((max (I k 2) (I k2 2)) + 1))]) (pc' := 101) G (mX2_leavesIn l Γ hN I P hj) kcX0_firstMeeting_89 (by omega) hj1 rfl rfl rfl (Nat.le_of_ble_eq_true rfl) (Nat.zero_le _) (Nat.zero_le _) dX0_firstMeeting_98 rfl rfl ?_
                refine fV_mmin (pc' := 104) G kcX0_firstMeeting_97 ⟨Nat.le_of_ble_eq_true rfl, Nat.le_of_ble_eq_true rfl⟩ (Nat.zero_le _) (Nat.zero_le _) (by omega) (by omega) dX0_firstMeeting_101 rfl ?_
                refine fV_mmax (pc' := 107) G kcX0_firstMeeting_120 ⟨Nat.le_of_ble_eq_true rfl, Nat.le_of_ble_eq_true rfl⟩ (Nat.zero_le _) (Nat.zero_le _) (by omega) (by omega) dX0_firstMeeting_104 rfl ?_
                refine fV_istore (lv' := [(5, .int (i32 (max ((max (I k 2) (I k2 2)) + 1) (min (I k 2 + I k 3 + I k 4) (I k2 2 + I k2 3 + I k2 4))))), (4, .int (i32 (min (sGone (I sc 4) (I sc 3) (I (sc + 2)) (I k)) (sGone (I sc 4) (I sc 3) (I (sc + 2)) (I k2))))), (3, .int (i32 (max (I k 2) (I k2 2)))), (0, .ref (Γ.1 sc)), (1, .ref (Γ.1 k)), (2, .ref (Γ.1 k2))]) (pc' := 109) G dX0_firstMeeting_107 (by decide) rfl rfl ?_
                refine fV_iload (pc' := 111) G 0 dX0_firstMeeting_109 rfl rfl ?_
                refine fV_istore (lv' := [(6, .int (i32 (max ((max (I k 2) (I k2 2)) + 1) (min (I k 2 + I k 3 + I k 4) (I k2 2 + I k2 3 + I k2 4))))), (5, .int (i32 (max ((max (I k 2) (I k2 2)) + 1) (min (I k 2 + I k 3 + I k 4) (I k2 2 + I k2 3 + I k2 4))))), (4, .int (i32 (min (sGone (I sc 4) (I sc 3) (I (sc + 2)) (I k)) (sGone (I sc 4) (I sc 3) (I (sc + 2)) (I k2))))), (3, .int (i32 (max (I k 2) (I k2 2)))), (0, .ref (Γ.1 sc)), (1, .ref (Γ.1 k)), (2, .ref (Γ.1 k2))]) (pc' := 113) G dX0_firstMeeting_111 (by decide) rfl rfl ?_
                have lp : ∀ (z : Nat) (i : Int), max (I k 2) (I k2 2) + 1 ≤ i ∧ i ≤ 5000 → (∀ f, max (I k 2) (I k2 2) ≤ f → f < i → f < min (sGone (I sc 4) (I sc 3) (I (sc + 2)) (I k)) (sGone (I sc 4) (I sc 3) (I (sc + 2)) (I k2)) → ¬ sShare (I sc 4) (I k) (I k2) f) → ((5000 - i).toNat) = z → fV p l e rmX0_firstMeeting s m args below meth c (MQ below (fQ Γ N (fE (some (.int (i32 (sMeet (I sc 4) (I sc 3) (I (sc + 2)) (I k) (I k2))))) I P)) args s 0 0 (fA Γ N)) (fA Γ N) Γ N 7 0 0 I P 113 [(0, .ref (Γ.1 sc)), (1, .ref (Γ.1 k)), (2, .ref (Γ.1 k2)), (3, .int (i32 (max (I k 2) (I k2 2)))), (4, .int (i32 (min (sGone (I sc 4) (I sc 3) (I (sc + 2)) (I k)) (sGone (I sc 4) (I sc 3) (I (sc + 2)) (I k2))))), (6, .int (i32 i))] [] := by
                  intro z
                  induction z using Nat.strongRecOn with
                  | _ z ih_lp =>
                    intro i hi hno hz_lp
                    refine fV_iload (pc' := 115) G 5 dX0_firstMeeting_113 rfl rfl ?_
                    refine fV_iload (pc' := 117) G 4 dX0_firstMeeting_115 rfl rfl ?_
                    refine fV_icmp_ge (tgt := 140) (pc' := 120) G dX0_firstMeeting_117 (by decide) rfl (by omega) (by omega) (fun c108 => ?_) (fun c108 => ?_)
                    · refine fV_bipush (n := -19) (pc' := 142) G dX0_firstMeeting_140 rfl rfl ?_
                      refine fV_iret G dX0_firstMeeting_142 ?_
                      exact fE_i (sMeet_end (by omega) hno).symm
                    · refine fV_aload_n (pc' := 121) G 0 dX0_firstMeeting_120 rfl rfl rfl ?_
                      refine fV_aload_n (pc' := 122) G 1 dX0_firstMeeting_121 rfl rfl rfl ?_
                      refine fV_aload_n (pc' := 123) G 2 dX0_firstMeeting_122 rfl rfl rfl ?_
                      refine fV_iload (pc' := 125) G 5 dX0_firstMeeting_123 rfl rfl ?_
                      refine fV_callVf (st' := [.int (i32 (fB (decide (sShare (I sc 4) (I k) (I k2) i))))]) (n := 3) (k := sc) (K := 0) (As := [.ref (Γ.1 k), .ref (Γ.1 k2), .int (i32 i)]) (rest := []) (pc' := 128) G (mX0_shareCell l Γ hN I P hs hv4 hk hw hj hx i (by omega) (by assumption) (by assumption)) kcX0_firstMeeting_128 hn0 hs1 rfl rfl rfl (Nat.le_of_ble_eq_true rfl) (Nat.zero_le _) (Nat.zero_le _) dX0_firstMeeting_125 rfl rfl ?_
                      refine fV_ifeq_b (tgt := 134) (pc' := 131) G dX0_firstMeeting_128 (by decide) rfl (fun c109 => ?_) (fun c109 => ?_)
                      · have hsn := of_decide_eq_false c109
                        refine fV_iinc (lv' := [(6, .int (i32 (i + 1))), (0, .ref (Γ.1 sc)), (1, .ref (Γ.1 k)), (2, .ref (Γ.1 k2)), (3, .int (i32 (max (I k 2) (I k2 2)))), (4, .int (i32 (min (sGone (I sc 4) (I sc 3) (I (sc + 2)) (I k)) (sGone (I sc 4) (I sc 3) (I (sc + 2)) (I k2)))))]) (pc' := 137) G 5 dX0_firstMeeting_134 rfl (by decide) rfl rfl ?_
                        refine fV_goto (tgt := 113) G dX0_firstMeeting_137 (by decide) ?_
                        refine fV_lv (lv' := [(0, .ref (Γ.1 sc)), (1, .ref (Γ.1 k)), (2, .ref (Γ.1 k2)), (3, .int (i32 (max (I k 2) (I k2 2)))), (4, .int (i32 (min (sGone (I sc 4) (I sc 3) (I (sc + 2)) (I k)) (sGone (I sc 4) (I sc 3) (I (sc + 2)) (I k2))))), (6, .int (i32 (i + 1)))]) [1, 2, 3, 4, 5, 0] rfl ?_
                        exact ih_lp _ (by omega) (i + 1) (by omega) (fun f z1 z2 z3 => by by_cases z : f = i; exact z ▸ hsn; exact hno f z1 (by omega) z3) rfl
                      · have hsh := of_decide_eq_true c109
                        refine fV_iload (pc' := 133) G 5 dX0_firstMeeting_131 rfl rfl ?_
                        refine fV_iret G dX0_firstMeeting_133 ?_
                        exact fE_i (sMeet_hit ⟨hput, hput2⟩ (by omega) (by omega) hsh hno).symm
                refine fV_lv (lv' := [(0, .ref (Γ.1 sc)), (1, .ref (Γ.1 k)), (2, .ref (Γ.1 k2)), (3, .int (i32 (max (I k 2) (I k2 2)))), (4, .int (i32 (min (sGone (I sc 4) (I sc 3) (I (sc + 2)) (I k)) (sGone (I sc 4) (I sc 3) (I (sc + 2)) (I k2))))), (6, .int (i32 (max ((max (I k 2) (I k2 2)) + 1) (min (I k 2 + I k 3 + I k 4) (I k2 2 + I k2 3 + I k2 4)))))]) [4, 5, 6, 3, 2, 0] rfl ?_
                exact lp _ (max (max (I k 2) (I k2 2) + 1) (min (I k 2 + I k 3 + I k 4) (I k2 2 + I k2 3 + I k2 4))) (by omega) (no_share hns) rfl
              · have hsh := of_decide_eq_true c7
                refine fV_iload_n (pc' := 89) G 1 dX0_firstMeeting_88 rfl rfl rfl ?_
                refine fV_iret G dX0_firstMeeting_89 ?_
                exact fE_i (sMeet_hit ⟨hput, hput2⟩ (Int.le_refl _) hlt hsh (fun f z1 z2 _ => by omega)).symm
          · have hkb := c5
            refine fV_bipush (n := -19) (pc' := 44) G dX0_firstMeeting_42 rfl rfl ?_
            refine fV_iret G dX0_firstMeeting_44 ?_
            exact fE_i (sMeet_lane (by omega) (of_decide_eq_true hka) (of_decide_eq_true hkb)).symm
    · refine fV_bipush (n := -19) (pc' := 16) G dX0_firstMeeting_14 rfl rfl ?_
      refine fV_iret G dX0_firstMeeting_16 ?_
      exact fE_i (sMeet_no (by omega)).symm
