/-! CONTRACTS 22: the reference's reading of items (rows laid by wip/whole/gen/con22.py) -/
set_option maxHeartbeats 4000000 in
set_option maxRecDepth 100000 in
theorem mX4_accept (l : Launch) (Γ : fG) {N : Nat} (hN : 220 ≤ N) (I : fM) (P : fN) (x : Int) (hx : x = 0 ∨ x = 1) (hn : 0 ≤ I 214 6 ∧ I 214 6 ≤ 160) (hT : tOk (I 218) (I 214 6)) (he : 0 ≤ I 214 7 ∧ I 214 7 ≤ I 214 6) (hb : 0 ≤ I 214 10 ∧ I 214 10 ≤ 14348906) (h11 : I 214 11 = 0 ∨ I 214 11 = 1) : fMet l yX4_accept wsX4_accept rmX4_accept Γ N [.ref (Γ.1 214), .int (i32 x)] I P (fE (some (.int (i32 (I 214 10)))) (if I 214 11 = 0 ∧ x = 1 then rdS I else fup I 214 11 1) P) := by
  refine fMet_of (own := RX4) (cc := cX4_accept) (maxL := 3) (ret := (some .int)) rfl (by decide +kernel) rfl (Nat.le_of_ble_eq_true rfl) ?_
  intro p e s m args below meth c G
  refine fV_lv (lv' := [(0, .ref (Γ.1 214)), (1, .int (i32 x))]) [0, 1] rfl ?_
  refine fV_aload_n (pc' := 1) G 0 dX4_accept_0 rfl rfl rfl ?_
  refine fV_get (K := 4) (v := .long (i64 (I 214 10))) (pc' := 4) G kfX4_accept_137 (by omega) rfl rfl rfl dX4_accept_1 rfl ?_
  refine fV_l2i (pc' := 5) G dX4_accept_4 rfl (by omega) ?_
  refine fV_istore_n (lv' := [(2, .int (i32 (I 214 10))), (0, .ref (Γ.1 214)), (1, .int (i32 x))]) (pc' := 6) G dX4_accept_5 rfl (by decide) rfl rfl ?_
  refine fV_aload_n (pc' := 7) G 1 dX4_accept_6 rfl rfl rfl ?_
  refine fV_aload_n (pc' := 8) G 1 dX4_accept_7 rfl rfl rfl ?_
  refine fV_get (K := 4) (v := .int (i32 (I 214 11))) (pc' := 11) G kfX4_accept_158 (by omega) rfl rfl rfl dX4_accept_8 rfl ?_
  refine fV_if_ne (tgt := 18) (pc' := 14) G dX4_accept_11 (by decide) rfl (by omega) (fun c1 => ?_) (fun c1 => ?_)
  · refine fV_iconst (pc' := 19) G dX4_accept_18 rfl ?_
    refine fV_goto (tgt := 23) G dX4_accept_19 (by decide) ?_
    refine fV_put (K := 4) (jj := 11) (x := 1) (v := .int (i32 1)) (ty := .boolean) (pc' := 26) G kfX4_accept_158 (by omega) rfl rfl rfl kp4_11 rfl rfl (Nat.le_of_ble_eq_true rfl) dX4_accept_23 rfl (fun I2 eI2 => ?_)
    refine fV_aload_n (pc' := 27) G 1 dX4_accept_26 rfl rfl rfl ?_
    refine fV_get (K := 4) (v := .int (i32 (I2 214 11))) (pc' := 30) G kfX4_accept_158 (by omega) rfl rfl rfl dX4_accept_27 rfl ?_
    refine fV_top (b := 1) (by rw [eI2, fup_s]) ?_
    refine fV_if_ne (tgt := 37) (pc' := 33) G dX4_accept_30 (by decide) rfl (by omega) (fun c3 => ?_) (fun c3 => ?_)
    · refine fV_iload_n (pc' := 38) G 0 dX4_accept_37 rfl rfl rfl ?_
      refine fV_iret G dX4_accept_38 ?_
      exact fE_im rfl (by rw [eI2, if_neg (by omega)]) rfl
    · exact absurd c3 (by decide)
  · refine fV_iload_n (pc' := 15) G 2 dX4_accept_14 rfl rfl rfl ?_
    refine fV_if_ne (tgt := 22) (pc' := 18) G dX4_accept_15 (by decide) rfl (by omega) (fun c2 => ?_) (fun c2 => ?_)
    · refine fV_iconst (pc' := 23) G dX4_accept_22 rfl ?_
      refine fV_put (K := 4) (jj := 11) (x := 0) (v := .int (i32 0)) (ty := .boolean) (pc' := 26) G kfX4_accept_158 (by omega) rfl rfl rfl kp4_11 rfl rfl (Nat.le_of_ble_eq_true rfl) dX4_accept_23 rfl (fun I3 eI3 => ?_)
      refine fV_aload_n (pc' := 27) G 1 dX4_accept_26 rfl rfl rfl ?_
      refine fV_get (K := 4) (v := .int (i32 (I3 214 11))) (pc' := 30) G kfX4_accept_158 (by omega) rfl rfl rfl dX4_accept_27 rfl ?_
      refine fV_top (b := 0) (by rw [eI3, fup_s]) ?_
      refine fV_if_ne (tgt := 37) (pc' := 33) G dX4_accept_30 (by decide) rfl (by omega) (fun c4 => ?_) (fun c4 => ?_)
      · exact absurd c4 (by decide)
      · refine fV_mem (I' := I) (P' := P) (by rw [eI3]; exact fup_id (by omega)) rfl ?_
        refine fV_aload_n (pc' := 34) G 1 dX4_accept_33 rfl rfl rfl ?_
        obtain ⟨I5, eI5⟩ : ∃ J9 : fM, J9 = rdS I := ⟨_, rfl⟩
        refine fV_callVf (I' := I5) (st' := []) (n := 0) (k := 214) (K := 4) (As := []) (rest := []) (pc' := 37) G (by rw [eI5]; exact mX4_read l Γ hN I P hn hT he) kcX4_accept_162 (by omega) rfl rfl rfl rfl (Nat.le_of_ble_eq_true rfl) (Nat.zero_le _) (Nat.zero_le _) dX4_accept_34 rfl rfl ?_
        refine fV_iload_n (pc' := 38) G 0 dX4_accept_37 rfl rfl rfl ?_
        refine fV_iret G dX4_accept_38 ?_
        exact fE_im rfl (by rw [eI5, if_pos (by omega)]) rfl
    · refine fV_iconst (pc' := 19) G dX4_accept_18 rfl ?_
      refine fV_goto (tgt := 23) G dX4_accept_19 (by decide) ?_
      refine fV_put (K := 4) (jj := 11) (x := 1) (v := .int (i32 1)) (ty := .boolean) (pc' := 26) G kfX4_accept_158 (by omega) rfl rfl rfl kp4_11 rfl rfl (Nat.le_of_ble_eq_true rfl) dX4_accept_23 rfl (fun I3 eI3 => ?_)
      refine fV_aload_n (pc' := 27) G 1 dX4_accept_26 rfl rfl rfl ?_
      refine fV_get (K := 4) (v := .int (i32 (I3 214 11))) (pc' := 30) G kfX4_accept_158 (by omega) rfl rfl rfl dX4_accept_27 rfl ?_
      refine fV_top (b := 1) (by rw [eI3, fup_s]) ?_
      refine fV_if_ne (tgt := 37) (pc' := 33) G dX4_accept_30 (by decide) rfl (by omega) (fun c4 => ?_) (fun c4 => ?_)
      · refine fV_iload_n (pc' := 38) G 0 dX4_accept_37 rfl rfl rfl ?_
        refine fV_iret G dX4_accept_38 ?_
        exact fE_im rfl (by rw [eI3, if_neg (by omega)]) rfl
      · exact absurd c4 (by decide)
theorem mX4_acc_w (l : Launch) (Γ : fG) {N : Nat} (hN : 220 ≤ N) (I : fM) (P : fN) (x : Int) (hx : x = 0 ∨ x = 1) {T : Int → Int} {n : Int} (hn : 0 ≤ n ∧ n ≤ 160) (hT : tOk T n) {e0 : Int} (he : 0 ≤ e0 ∧ e0 ≤ n) (h : rdT I T n e0) (h11 : I 214 11 = 1) : fMet l yX4_accept wsX4_accept rmX4_accept Γ N [.ref (Γ.1 214), .int (i32 x)] I P (fE (some (.int (i32 (rdV T n e0)))) (I) P) := by
  have k := mX4_accept l Γ hN I P x hx (by rw [h.2.1]; exact hn) (by rw [h.1, h.2.1]; exact hT) (by rw [h.2.1, h.2.2.1]; have := tE_b (T := T) he.2; have := tS_b (T := T) he.2; omega) (by rw [h.2.2.2.2.2]; exact rdV_b he.2) (by omega)
  rw [if_neg (by omega), fup_id h11, h.2.2.2.2.2] at k
  exact k
theorem mX4_acc_y (l : Launch) (Γ : fG) {N : Nat} (hN : 220 ≤ N) (I : fM) (P : fN) {T : Int → Int} {n : Int} (hn : 0 ≤ n ∧ n ≤ 160) (hT : tOk T n) {e0 : Int} (he : 0 ≤ e0 ∧ e0 ≤ n) (h : rdT I T n e0) (h11 : I 214 11 = 0) : fMet l yX4_accept wsX4_accept rmX4_accept Γ N [.ref (Γ.1 214), .int (i32 1)] I P (fE (some (.int (i32 (rdV T n e0)))) (rdS I) P) := by
  have k := mX4_accept l Γ hN I P 1 (by decide) (by rw [h.2.1]; exact hn) (by rw [h.1, h.2.1]; exact hT) (by rw [h.2.1, h.2.2.1]; have := tE_b (T := T) he.2; have := tS_b (T := T) he.2; omega) (by rw [h.2.2.2.2.2]; exact rdV_b he.2) (by omega)
  rw [if_pos ⟨h11, rfl⟩, h.2.2.2.2.2] at k
  exact k
theorem mX4_acc_n (l : Launch) (Γ : fG) {N : Nat} (hN : 220 ≤ N) (I : fM) (P : fN) {T : Int → Int} {n : Int} (hn : 0 ≤ n ∧ n ≤ 160) (hT : tOk T n) {e0 : Int} (he : 0 ≤ e0 ∧ e0 ≤ n) (h : rdT I T n e0) (h11 : I 214 11 = 0) : fMet l yX4_accept wsX4_accept rmX4_accept Γ N [.ref (Γ.1 214), .int (i32 0)] I P (fE (some (.int (i32 (rdV T n e0)))) (fup I 214 11 1) P) := by
  have k := mX4_accept l Γ hN I P 0 (by decide) (by rw [h.2.1]; exact hn) (by rw [h.1, h.2.1]; exact hT) (by rw [h.2.1, h.2.2.1]; have := tE_b (T := T) he.2; have := tS_b (T := T) he.2; omega) (by rw [h.2.2.2.2.2]; exact rdV_b he.2) (by omega)
  rw [if_neg (by omega), h.2.2.2.2.2] at k
  exact k
set_option maxHeartbeats 4000000 in
set_option maxRecDepth 100000 in
theorem mX4_number (l : Launch) (Γ : fG) {N : Nat} (hN : 220 ≤ N) (I : fM) (P : fN) (lo hi : Int) (hlo : 0 ≤ lo ∧ lo ≤ 9999) (hhi : 0 ≤ hi ∧ hi ≤ 9999) (h9 : 0 ≤ I 214 9 ∧ I 214 9 ≤ 4) (hn : 0 ≤ I 214 6 ∧ I 214 6 ≤ 160) (hT : tOk (I 218) (I 214 6)) (he : 0 ≤ I 214 7 ∧ I 214 7 ≤ I 214 6) (hb : 0 ≤ I 214 10 ∧ I 214 10 ≤ 14348906) (h11 : I 214 11 = 0 ∨ I 214 11 = 1) : fMet l yX4_number wsX4_number rmX4_number Γ N [.ref (Γ.1 214), .int (i32 lo), .int (i32 hi)] I P (fE (some (.int (i32 (I 214 10)))) (if I 214 11 = 0 ∧ (I 214 9 = 1 ∧ lo ≤ I 214 10 ∧ I 214 10 ≤ hi) then rdS I else fup I 214 11 1) P) := by
  refine fMet_of (own := RX4) (cc := cX4_number) (maxL := 3) (ret := (some .int)) rfl (by decide +kernel) rfl (Nat.le_of_ble_eq_true rfl) ?_
  intro p e s m args below meth c G
  refine fV_lv (lv' := [(0, .ref (Γ.1 214)), (1, .int (i32 lo)), (2, .int (i32 hi))]) [0, 1, 2] rfl ?_
  refine fV_aload_n (pc' := 1) G 0 dX4_number_0 rfl rfl rfl ?_
  refine fV_aload_n (pc' := 2) G 0 dX4_number_1 rfl rfl rfl ?_
  refine fV_get (K := 4) (v := .int (i32 (I 214 9))) (pc' := 5) G kfX4_number_145 (by omega) rfl rfl rfl dX4_number_2 rfl ?_
  refine fV_iconst (pc' := 6) G dX4_number_5 rfl ?_
  refine fV_icmp_ne (tgt := 27) (pc' := 9) G dX4_number_6 (by decide) rfl (by omega) (by decide) (fun c1 => ?_) (fun c1 => ?_)
  · refine fV_iconst (pc' := 28) G dX4_number_27 rfl ?_
    obtain ⟨I2, eI2⟩ : ∃ J9 : fM, J9 = (if I 214 11 = 0 ∧ (0 : Int) = 1 then rdS I else fup I 214 11 1) := ⟨_, rfl⟩
    refine fV_callVf (I' := I2) (st' := [.int (i32 (I 214 10))]) (n := 1) (k := 214) (K := 4) (As := [.int (i32 0)]) (rest := []) (pc' := 31) G (by rw [eI2]; exact mX4_accept l Γ hN I P 0 (by decide) hn hT he hb h11) kcX4_number_165 (by omega) rfl rfl rfl rfl (Nat.le_of_ble_eq_true rfl) (Nat.zero_le _) (Nat.zero_le _) dX4_number_28 rfl rfl ?_
    refine fV_iret G dX4_number_31 ?_
    exact fE_im rfl (by rw [eI2]; first | (rw [if_neg (fun q => absurd q.2 (by decide)), if_neg (by omega)]; done) | (by_cases z : I 214 11 = 0; (rw [if_pos ⟨z, rfl⟩, if_pos ⟨z, by omega⟩]); (rw [if_neg (fun q => z q.1), if_neg (fun q => z q.1)]))) rfl
  · refine fV_aload_n (pc' := 10) G 0 dX4_number_9 rfl rfl rfl ?_
    refine fV_get (K := 4) (v := .long (i64 (I 214 10))) (pc' := 13) G kfX4_number_137 (by omega) rfl rfl rfl dX4_number_10 rfl ?_
    refine fV_iload_n (pc' := 14) G 1 dX4_number_13 rfl rfl rfl ?_
    refine fV_i2l (pc' := 15) G dX4_number_14 rfl (by omega) ?_
    refine fV_iload_n (pc' := 16) G 2 dX4_number_15 rfl rfl rfl ?_
    refine fV_i2l (pc' := 17) G dX4_number_16 rfl (by omega) ?_
    refine fV_callSf (st' := [.int (i32 (fB (sBetw (I 214 10) lo hi))), .ref (Γ.1 214)]) (n := 3) (As := [.long (i64 (I 214 10)), .long (i64 lo), .long (i64 hi)]) (rest := [.ref (Γ.1 214)]) (pc' := 20) G (mX4_in l Γ hN I P (I 214 10) lo hi (by omega) (by omega) (by omega)) kcX4_number_33 rfl rfl (Nat.le_of_ble_eq_true rfl) (Nat.zero_le _) (Nat.zero_le _) dX4_number_17 rfl rfl ?_
    refine fV_ifeq_b (tgt := 27) (pc' := 23) G dX4_number_20 (by decide) rfl (fun c2 => ?_) (fun c2 => ?_)
    · have d2 : ¬ (lo ≤ (I 214 10) ∧ (I 214 10) ≤ hi) := of_decide_eq_false c2
      refine fV_iconst (pc' := 28) G dX4_number_27 rfl ?_
      obtain ⟨I3, eI3⟩ : ∃ J9 : fM, J9 = (if I 214 11 = 0 ∧ (0 : Int) = 1 then rdS I else fup I 214 11 1) := ⟨_, rfl⟩
      refine fV_callVf (I' := I3) (st' := [.int (i32 (I 214 10))]) (n := 1) (k := 214) (K := 4) (As := [.int (i32 0)]) (rest := []) (pc' := 31) G (by rw [eI3]; exact mX4_accept l Γ hN I P 0 (by decide) hn hT he hb h11) kcX4_number_165 (by omega) rfl rfl rfl rfl (Nat.le_of_ble_eq_true rfl) (Nat.zero_le _) (Nat.zero_le _) dX4_number_28 rfl rfl ?_
      refine fV_iret G dX4_number_31 ?_
      exact fE_im rfl (by rw [eI3]; first | (rw [if_neg (fun q => absurd q.2 (by decide)), if_neg (by omega)]; done) | (by_cases z : I 214 11 = 0; (rw [if_pos ⟨z, rfl⟩, if_pos ⟨z, by omega⟩]); (rw [if_neg (fun q => z q.1), if_neg (fun q => z q.1)]))) rfl
    · have d2 : (lo ≤ (I 214 10) ∧ (I 214 10) ≤ hi) := of_decide_eq_true c2
      refine fV_iconst (pc' := 24) G dX4_number_23 rfl ?_
      refine fV_goto (tgt := 28) G dX4_number_24 (by decide) ?_
      obtain ⟨I3, eI3⟩ : ∃ J9 : fM, J9 = (if I 214 11 = 0 ∧ (1 : Int) = 1 then rdS I else fup I 214 11 1) := ⟨_, rfl⟩
      refine fV_callVf (I' := I3) (st' := [.int (i32 (I 214 10))]) (n := 1) (k := 214) (K := 4) (As := [.int (i32 1)]) (rest := []) (pc' := 31) G (by rw [eI3]; exact mX4_accept l Γ hN I P 1 (by decide) hn hT he hb h11) kcX4_number_165 (by omega) rfl rfl rfl rfl (Nat.le_of_ble_eq_true rfl) (Nat.zero_le _) (Nat.zero_le _) dX4_number_28 rfl rfl ?_
      refine fV_iret G dX4_number_31 ?_
      exact fE_im rfl (by rw [eI3]; first | (rw [if_neg (fun q => absurd q.2 (by decide)), if_neg (by omega)]; done) | (by_cases z : I 214 11 = 0; (rw [if_pos ⟨z, rfl⟩, if_pos ⟨z, by omega⟩]); (rw [if_neg (fun q => z q.1), if_neg (fun q => z q.1)]))) rfl
theorem mX4_num_w (l : Launch) (Γ : fG) {N : Nat} (hN : 220 ≤ N) (I : fM) (P : fN) (lo hi : Int) (hlo : 0 ≤ lo ∧ lo ≤ 9999) (hhi : 0 ≤ hi ∧ hi ≤ 9999) {T : Int → Int} {n : Int} (hn : 0 ≤ n ∧ n ≤ 160) (hT : tOk T n) {e0 : Int} (he : 0 ≤ e0 ∧ e0 ≤ n) (h : rdT I T n e0) (h11 : I 214 11 = 1) : fMet l yX4_number wsX4_number rmX4_number Γ N [.ref (Γ.1 214), .int (i32 lo), .int (i32 hi)] I P (fE (some (.int (i32 (rdV T n e0)))) (I) P) := by
  have q := rd_num (T := T) (n := n) (lo := lo) (hi := hi) he.2 hlo.1 hhi.2
  have k := mX4_number l Γ hN I P lo hi hlo hhi (by rw [h.2.2.2.2.1]; exact rdK_b _ _ _) (by rw [h.2.1]; exact hn) (by rw [h.1, h.2.1]; exact hT) (by rw [h.2.1, h.2.2.1]; have := tE_b (T := T) he.2; have := tS_b (T := T) he.2; omega) (by rw [h.2.2.2.2.2]; exact rdV_b he.2) (by omega)
  rw [if_neg (by omega), fup_id h11, h.2.2.2.2.2] at k
  exact k
theorem mX4_num_y (l : Launch) (Γ : fG) {N : Nat} (hN : 220 ≤ N) (I : fM) (P : fN) (lo hi : Int) (hlo : 0 ≤ lo ∧ lo ≤ 9999) (hhi : 0 ≤ hi ∧ hi ≤ 9999) {T : Int → Int} {n : Int} (hn : 0 ≤ n ∧ n ≤ 160) (hT : tOk T n) {e0 : Int} (he : 0 ≤ e0 ∧ e0 ≤ n) (h : rdT I T n e0) (h11 : I 214 11 = 0) (hi9 : lo ≤ tNum T n e0 ∧ tNum T n e0 ≤ hi) : fMet l yX4_number wsX4_number rmX4_number Γ N [.ref (Γ.1 214), .int (i32 lo), .int (i32 hi)] I P (fE (some (.int (i32 (tNum T n e0)))) (rdS I) P) := by
  have q := rd_num (T := T) (n := n) (lo := lo) (hi := hi) he.2 hlo.1 hhi.2
  have k := mX4_number l Γ hN I P lo hi hlo hhi (by rw [h.2.2.2.2.1]; exact rdK_b _ _ _) (by rw [h.2.1]; exact hn) (by rw [h.1, h.2.1]; exact hT) (by rw [h.2.1, h.2.2.1]; have := tE_b (T := T) he.2; have := tS_b (T := T) he.2; omega) (by rw [h.2.2.2.2.2]; exact rdV_b he.2) (by omega)
  rw [if_pos ⟨h11, by rw [h.2.2.2.2.1, h.2.2.2.2.2]; exact q.1.mpr hi9⟩, h.2.2.2.2.2, q.2 hi9.1 hi9.2] at k
  exact k
theorem mX4_num_n (l : Launch) (Γ : fG) {N : Nat} (hN : 220 ≤ N) (I : fM) (P : fN) (lo hi : Int) (hlo : 0 ≤ lo ∧ lo ≤ 9999) (hhi : 0 ≤ hi ∧ hi ≤ 9999) {T : Int → Int} {n : Int} (hn : 0 ≤ n ∧ n ≤ 160) (hT : tOk T n) {e0 : Int} (he : 0 ≤ e0 ∧ e0 ≤ n) (h : rdT I T n e0) (h11 : I 214 11 = 0) (hi9 : ¬ (lo ≤ tNum T n e0 ∧ tNum T n e0 ≤ hi)) : fMet l yX4_number wsX4_number rmX4_number Γ N [.ref (Γ.1 214), .int (i32 lo), .int (i32 hi)] I P (fE (some (.int (i32 (rdV T n e0)))) (fup I 214 11 1) P) := by
  have q := rd_num (T := T) (n := n) (lo := lo) (hi := hi) he.2 hlo.1 hhi.2
  have k := mX4_number l Γ hN I P lo hi hlo hhi (by rw [h.2.2.2.2.1]; exact rdK_b _ _ _) (by rw [h.2.1]; exact hn) (by rw [h.1, h.2.1]; exact hT) (by rw [h.2.1, h.2.2.1]; have := tE_b (T := T) he.2; have := tS_b (T := T) he.2; omega) (by rw [h.2.2.2.2.2]; exact rdV_b he.2) (by omega)
  rw [if_neg (fun z => hi9 (q.1.mp (by have z2 := z.2; rw [h.2.2.2.2.1, h.2.2.2.2.2] at z2; exact z2))), h.2.2.2.2.2] at k
  exact k
set_option maxHeartbeats 4000000 in
set_option maxRecDepth 100000 in
theorem mX4_wayOf (l : Launch) (Γ : fG) {N : Nat} (hN : 220 ≤ N) (I : fM) (P : fN) (hb : 0 ≤ I 214 10 ∧ I 214 10 ≤ 14348906) (h9 : 0 ≤ I 214 9 ∧ I 214 9 ≤ 4) : fMet l yX4_wayOf wsX4_wayOf rmX4_wayOf Γ N [.ref (Γ.1 214)] I P (fE (some (.int (i32 (if I 214 9 = 0 then (if I 214 10 = 240023 then 1 else if I 214 10 = 9748424 then 2 else if I 214 10 = 583 then 3 else if I 214 10 = 90302 then 4 else 0) else 0)))) I P) := by
  refine fMet_of (own := RX4) (cc := cX4_wayOf) (maxL := 1) (ret := (some .int)) rfl (by decide +kernel) rfl (Nat.le_of_ble_eq_true rfl) ?_
  intro p e s m args below meth c G
  refine fV_lv (lv' := [(0, .ref (Γ.1 214))]) [0] rfl ?_
  refine fV_aload_n (pc' := 1) G 0 dX4_wayOf_0 rfl rfl rfl ?_
  refine fV_get (K := 4) (v := .int (i32 (I 214 9))) (pc' := 4) G kfX4_wayOf_145 (by omega) rfl rfl rfl dX4_wayOf_1 rfl ?_
  refine fV_if_eq (tgt := 9) (pc' := 7) G dX4_wayOf_4 (by decide) rfl (by omega) (fun c1 => ?_) (fun c1 => ?_)
  · refine fV_aload_n (pc' := 10) G 0 dX4_wayOf_9 rfl rfl rfl ?_
    refine fV_get (K := 4) (v := .long (i64 (I 214 10))) (pc' := 13) G kfX4_wayOf_137 (by omega) rfl rfl rfl dX4_wayOf_10 rfl ?_
    refine fV_ldc2 (a := 240023) (pc' := 16) G klX4_wayOf_169 rfl dX4_wayOf_13 rfl ?_
    refine fV_lcmp (pc' := 17) G dX4_wayOf_16 rfl (by omega) (by omega) ?_
    refine fV_if_ne (tgt := 24) (pc' := 20) G dX4_wayOf_17 (by decide) rfl (by unfold fcm; (split <;> first | omega | (split <;> omega))) (fun c2 => ?_) (fun c2 => ?_)
    · unfold fcm at c2
      have w240023 : ¬ I 214 10 = 240023 := by intro z9; rw [z9] at c2; exact absurd c2 (by decide)
      clear c2
      refine fV_aload_n (pc' := 25) G 0 dX4_wayOf_24 rfl rfl rfl ?_
      refine fV_get (K := 4) (v := .long (i64 (I 214 10))) (pc' := 28) G kfX4_wayOf_137 (by omega) rfl rfl rfl dX4_wayOf_25 rfl ?_
      refine fV_ldc2 (a := 9748424) (pc' := 31) G klX4_wayOf_171 rfl dX4_wayOf_28 rfl ?_
      refine fV_lcmp (pc' := 32) G dX4_wayOf_31 rfl (by omega) (by omega) ?_
      refine fV_if_ne (tgt := 39) (pc' := 35) G dX4_wayOf_32 (by decide) rfl (by unfold fcm; (split <;> first | omega | (split <;> omega))) (fun c3 => ?_) (fun c3 => ?_)
      · unfold fcm at c3
        have w9748424 : ¬ I 214 10 = 9748424 := by intro z9; rw [z9] at c3; exact absurd c3 (by decide)
        clear c3
        refine fV_aload_n (pc' := 40) G 0 dX4_wayOf_39 rfl rfl rfl ?_
        refine fV_get (K := 4) (v := .long (i64 (I 214 10))) (pc' := 43) G kfX4_wayOf_137 (by omega) rfl rfl rfl dX4_wayOf_40 rfl ?_
        refine fV_ldc2 (a := 583) (pc' := 46) G klX4_wayOf_173 rfl dX4_wayOf_43 rfl ?_
        refine fV_lcmp (pc' := 47) G dX4_wayOf_46 rfl (by omega) (by omega) ?_
        refine fV_if_ne (tgt := 54) (pc' := 50) G dX4_wayOf_47 (by decide) rfl (by unfold fcm; (split <;> first | omega | (split <;> omega))) (fun c4 => ?_) (fun c4 => ?_)
        · unfold fcm at c4
          have w583 : ¬ I 214 10 = 583 := by intro z9; rw [z9] at c4; exact absurd c4 (by decide)
          clear c4
          refine fV_aload_n (pc' := 55) G 0 dX4_wayOf_54 rfl rfl rfl ?_
          refine fV_get (K := 4) (v := .long (i64 (I 214 10))) (pc' := 58) G kfX4_wayOf_137 (by omega) rfl rfl rfl dX4_wayOf_55 rfl ?_
          refine fV_ldc2 (a := 90302) (pc' := 61) G klX4_wayOf_175 rfl dX4_wayOf_58 rfl ?_
          refine fV_lcmp (pc' := 62) G dX4_wayOf_61 rfl (by omega) (by omega) ?_
          refine fV_if_ne (tgt := 69) (pc' := 65) G dX4_wayOf_62 (by decide) rfl (by unfold fcm; (split <;> first | omega | (split <;> omega))) (fun c5 => ?_) (fun c5 => ?_)
          · unfold fcm at c5
            have w90302 : ¬ I 214 10 = 90302 := by intro z9; rw [z9] at c5; exact absurd c5 (by decide)
            clear c5
            refine fV_iconst (pc' := 70) G dX4_wayOf_69 rfl ?_
            refine fV_iret G dX4_wayOf_70 ?_
            exact fE_i (by (repeat' split) <;> first | rfl | omega)
          · unfold fcm at c5
            have w90302 : I 214 10 = 90302 := by (repeat' split at c5) <;> omega
            clear c5
            refine fV_iconst (pc' := 66) G dX4_wayOf_65 rfl ?_
            refine fV_goto (tgt := 70) G dX4_wayOf_66 (by decide) ?_
            refine fV_iret G dX4_wayOf_70 ?_
            exact fE_i (by (repeat' split) <;> first | rfl | omega)
        · unfold fcm at c4
          have w583 : I 214 10 = 583 := by (repeat' split at c4) <;> omega
          clear c4
          refine fV_iconst (pc' := 51) G dX4_wayOf_50 rfl ?_
          refine fV_goto (tgt := 70) G dX4_wayOf_51 (by decide) ?_
          refine fV_iret G dX4_wayOf_70 ?_
          exact fE_i (by (repeat' split) <;> first | rfl | omega)
      · unfold fcm at c3
        have w9748424 : I 214 10 = 9748424 := by (repeat' split at c3) <;> omega
        clear c3
        refine fV_iconst (pc' := 36) G dX4_wayOf_35 rfl ?_
        refine fV_goto (tgt := 70) G dX4_wayOf_36 (by decide) ?_
        refine fV_iret G dX4_wayOf_70 ?_
        exact fE_i (by (repeat' split) <;> first | rfl | omega)
    · unfold fcm at c2
      have w240023 : I 214 10 = 240023 := by (repeat' split at c2) <;> omega
      clear c2
      refine fV_iconst (pc' := 21) G dX4_wayOf_20 rfl ?_
      refine fV_goto (tgt := 70) G dX4_wayOf_21 (by decide) ?_
      refine fV_iret G dX4_wayOf_70 ?_
      exact fE_i (by (repeat' split) <;> first | rfl | omega)
  · refine fV_iconst (pc' := 8) G dX4_wayOf_7 rfl ?_
    refine fV_iret G dX4_wayOf_8 ?_
    exact fE_i (by (repeat' split) <;> first | rfl | omega)
theorem mX4_way_t (l : Launch) (Γ : fG) {N : Nat} (hN : 220 ≤ N) (I : fM) (P : fN) {T : Int → Int} {n : Int} (hn : 0 ≤ n ∧ n ≤ 160) (hT : tOk T n) {e0 : Int} (he : 0 ≤ e0 ∧ e0 ≤ n) (h : rdT I T n e0) : fMet l yX4_wayOf wsX4_wayOf rmX4_wayOf Γ N [.ref (Γ.1 214)] I P (fE (some (.int (i32 (tWay T n e0)))) I P) := by
  have k := mX4_wayOf l Γ hN I P (by rw [h.2.2.2.2.2]; exact rdV_b he.2) (by rw [h.2.2.2.2.1]; exact rdK_b _ _ _)
  rw [h.2.2.2.2.1, h.2.2.2.2.2, rd_way he.2] at k
  exact k
set_option maxHeartbeats 4000000 in
set_option maxRecDepth 100000 in
theorem mX4_readShot (l : Launch) (Γ : fG) {N : Nat} (hN : 220 ≤ N) (I : fM) (P : fN) {T : Int → Int} {n : Int} (hn : 0 ≤ n ∧ n ≤ 160) (hT : tOk T n) {e0 : Int} (he : 0 ≤ e0 ∧ e0 ≤ n) (h : rdT I T n e0) (h11 : I 214 11 = 0) (hm : mOkr (I 215)) (h10 : I 215 1 < 10) : fMet l yX4_readShot wsX4_readShot rmX4_readShot Γ N [.ref (Γ.1 214)] I P (fun v J Q => v = none ∧ rdI I T n (pShot T n (I 215) e0) J ∧ Q = P) := by
  refine fMet_of (own := RX4) (cc := cX4_readShot) (maxL := 2) (ret := none) rfl (by decide +kernel) rfl (Nat.le_of_ble_eq_true rfl) ?_
  intro p e s m args below meth c G
  have sb_I := tS_b (T := T) (n := n) (e := e0) (by omega)
  have ez_I := tE_b (T := T) (n := n) (e := e0) (by omega)
  have eb_I := And.intro ez_I.1 ez_I.2.1
  clear ez_I
  have kb_I := rdK_b T n e0
  have vb_I := rdV_b (T := T) (n := n) (e := e0) (by omega)
  have nb_I := tNum_ge (T := T) (n := n) (e := e0) (by omega)
  have hv0 := hm.1.1
  have hv1 := hm.1.2.1
  refine fV_lv (lv' := [(0, .ref (Γ.1 214))]) [0] rfl ?_
  refine fV_aload_n (pc' := 1) G 0 dX4_readShot_0 rfl rfl rfl ?_
  refine fV_aload_n (pc' := 2) G 0 dX4_readShot_1 rfl rfl rfl ?_
  refine fV_get (K := 4) (v := .int (i32 (I 214 9))) (pc' := 5) G kfX4_readShot_145 (by omega) rfl rfl rfl dX4_readShot_2 rfl ?_
  refine fV_top (b := rdK T n e0) (by rw [h.2.2.2.2.1]) ?_
  refine fV_iconst (pc' := 6) G dX4_readShot_5 rfl ?_
  refine fV_icmp_ne (tgt := 41) (pc' := 9) G dX4_readShot_6 (by decide) rfl (by omega) (by decide) (fun c1 => ?_) (fun c1 => ?_)
  · refine fV_iconst (pc' := 42) G dX4_readShot_41 rfl ?_
    obtain ⟨I2, eI2⟩ : ∃ J9 : fM, J9 = fup I 214 11 1 := ⟨_, rfl⟩
    refine fV_callVf (I' := I2) (st' := [.int (i32 (rdV T n e0))]) (n := 1) (k := 214) (K := 4) (As := [.int (i32 0)]) (rest := []) (pc' := 45) G (by rw [eI2]; exact mX4_acc_n l Γ hN I P hn hT (by omega) h h11) kcX4_readShot_165 (by omega) rfl rfl rfl rfl (Nat.le_of_ble_eq_true rfl) (Nat.zero_le _) (Nat.zero_le _) dX4_readShot_42 rfl rfl ?_
    have t_I2 : rdT I2 T n (e0) := by rw [eI2]; exact rdT_w h
    have w_I2 : I2 214 11 = 1 := by rw [eI2, fup_s]
    have o_I2 : rdO I I2 := by rw [eI2]; exact rdO_tr (rdO_r I) (rdO_11 _ _)
    refine fV_istore_n (lv' := [(1, .int (i32 (rdV T n e0))), (0, .ref (Γ.1 214))]) (pc' := 46) G dX4_readShot_45 rfl (by decide) rfl rfl ?_
    refine fV_aload_n (pc' := 47) G 1 dX4_readShot_46 rfl rfl rfl ?_
    refine fV_aload_n (pc' := 48) G 1 dX4_readShot_47 rfl rfl rfl ?_
    refine fV_get (K := 4) (v := .int (i32 (I2 214 9))) (pc' := 51) G kfX4_readShot_145 (by omega) rfl rfl rfl dX4_readShot_48 rfl ?_
    refine fV_top (b := rdK T n e0) (by rw [t_I2.2.2.2.2.1]) ?_
    refine fV_iconst (pc' := 52) G dX4_readShot_51 rfl ?_
    refine fV_icmp_ne (tgt := 59) (pc' := 55) G dX4_readShot_52 (by decide) rfl (by omega) (by decide) (fun c3 => ?_) (fun c3 => ?_)
    · refine fV_iconst (pc' := 60) G dX4_readShot_59 rfl ?_
      refine fV_callVf (st' := [.int (i32 (rdV T n e0))]) (n := 1) (k := 214) (K := 4) (As := [.int (i32 0)]) (rest := []) (pc' := 63) G (mX4_acc_w l Γ hN I2 P 0 (by omega) hn hT (by omega) t_I2 w_I2) kcX4_readShot_165 (by omega) rfl rfl rfl rfl (Nat.le_of_ble_eq_true rfl) (Nat.zero_le _) (Nat.zero_le _) dX4_readShot_60 rfl rfl ?_
      refine fV_pop (pc' := 64) G dX4_readShot_63 rfl rfl ?_
      refine fV_aload_n (pc' := 65) G 1 dX4_readShot_64 rfl rfl rfl ?_
      refine fV_get (K := 4) (v := .int (i32 (I2 214 11))) (pc' := 68) G kfX4_readShot_158 (by omega) rfl rfl rfl dX4_readShot_65 rfl ?_
      refine fV_top (b := 1) (by rw [w_I2]) ?_
      refine fV_if_ne (tgt := 76) (pc' := 71) G dX4_readShot_68 (by decide) rfl (by omega) (fun c4 => ?_) (fun c4 => ?_)
      · refine fV_vret G dX4_readShot_76 ?_
        have qn := rd_num (T := T) (n := n) (e := e0) (lo := 1) (hi := 3000) (by omega) (by decide) (by decide)
        have hx : ¬ ((1 ≤ tNum T n e0 ∧ tNum T n e0 ≤ 3000) ∧ hasSB (I 215) (tNum T n e0) = false) := by rintro ⟨z1, z2⟩; have z3 := qn.1.mpr z1; have z4 := qn.2 z1.1 z1.2; first | omega | (have z5 := qh.1; rw [z4] at z5; exact absurd (z5.mpr (fun z6 => by rw [hasSB_iff.mpr z6] at z2; cases z2)) (by rw [← z4]; omega))
        exact ⟨rfl, by unfold pShot; rw [if_neg hx]; exact rdI_e t_I2 rfl w_I2 o_I2, rfl⟩
      · exact absurd c4 (by decide)
    · refine fV_iconst (pc' := 56) G dX4_readShot_55 rfl ?_
      refine fV_goto (tgt := 60) G dX4_readShot_56 (by decide) ?_
      refine fV_callVf (st' := [.int (i32 (rdV T n e0))]) (n := 1) (k := 214) (K := 4) (As := [.int (i32 1)]) (rest := []) (pc' := 63) G (mX4_acc_w l Γ hN I2 P 1 (by omega) hn hT (by omega) t_I2 w_I2) kcX4_readShot_165 (by omega) rfl rfl rfl rfl (Nat.le_of_ble_eq_true rfl) (Nat.zero_le _) (Nat.zero_le _) dX4_readShot_60 rfl rfl ?_
      refine fV_pop (pc' := 64) G dX4_readShot_63 rfl rfl ?_
      refine fV_aload_n (pc' := 65) G 1 dX4_readShot_64 rfl rfl rfl ?_
      refine fV_get (K := 4) (v := .int (i32 (I2 214 11))) (pc' := 68) G kfX4_readShot_158 (by omega) rfl rfl rfl dX4_readShot_65 rfl ?_
      refine fV_top (b := 1) (by rw [w_I2]) ?_
      refine fV_if_ne (tgt := 76) (pc' := 71) G dX4_readShot_68 (by decide) rfl (by omega) (fun c4 => ?_) (fun c4 => ?_)
      · refine fV_vret G dX4_readShot_76 ?_
        have qn := rd_num (T := T) (n := n) (e := e0) (lo := 1) (hi := 3000) (by omega) (by decide) (by decide)
        have hx : ¬ ((1 ≤ tNum T n e0 ∧ tNum T n e0 ≤ 3000) ∧ hasSB (I 215) (tNum T n e0) = false) := by rintro ⟨z1, z2⟩; have z3 := qn.1.mpr z1; have z4 := qn.2 z1.1 z1.2; first | omega | (have z5 := qh.1; rw [z4] at z5; exact absurd (z5.mpr (fun z6 => by rw [hasSB_iff.mpr z6] at z2; cases z2)) (by rw [← z4]; omega))
        exact ⟨rfl, by unfold pShot; rw [if_neg hx]; exact rdI_e t_I2 rfl w_I2 o_I2, rfl⟩
      · exact absurd c4 (by decide)
  · refine fV_aload_n (pc' := 10) G 0 dX4_readShot_9 rfl rfl rfl ?_
    refine fV_get (K := 4) (v := .long (i64 (I 214 10))) (pc' := 13) G kfX4_readShot_137 (by omega) rfl rfl rfl dX4_readShot_10 rfl ?_
    refine fV_st (st' := [.long (i64 (rdV T n e0)), .ref (Γ.1 214)]) (by rw [h.2.2.2.2.2]) ?_
    refine fV_lconst (v := 1) (pc' := 14) G dX4_readShot_13 rfl rfl ?_
    refine fV_ldc2 (a := 3000) (pc' := 17) G klX4_readShot_110 rfl dX4_readShot_14 rfl ?_
    refine fV_callSf (st' := [.int (i32 (fB (sBetw (rdV T n e0) 1 3000))), .ref (Γ.1 214)]) (n := 3) (As := [.long (i64 (rdV T n e0)), .long (i64 1), .long (i64 3000)]) (rest := [.ref (Γ.1 214)]) (pc' := 20) G (mX4_in l Γ hN I P (rdV T n e0) 1 3000 (by omega) (by omega) (by omega)) kcX4_readShot_33 rfl rfl (Nat.le_of_ble_eq_true rfl) (Nat.zero_le _) (Nat.zero_le _) dX4_readShot_17 rfl rfl ?_
    refine fV_ifeq_b (tgt := 41) (pc' := 23) G dX4_readShot_20 (by decide) rfl (fun c2 => ?_) (fun c2 => ?_)
    · have d2 : ¬ (1 ≤ (rdV T n e0) ∧ (rdV T n e0) ≤ 3000) := of_decide_eq_false c2
      refine fV_iconst (pc' := 42) G dX4_readShot_41 rfl ?_
      obtain ⟨I3, eI3⟩ : ∃ J9 : fM, J9 = fup I 214 11 1 := ⟨_, rfl⟩
      refine fV_callVf (I' := I3) (st' := [.int (i32 (rdV T n e0))]) (n := 1) (k := 214) (K := 4) (As := [.int (i32 0)]) (rest := []) (pc' := 45) G (by rw [eI3]; exact mX4_acc_n l Γ hN I P hn hT (by omega) h h11) kcX4_readShot_165 (by omega) rfl rfl rfl rfl (Nat.le_of_ble_eq_true rfl) (Nat.zero_le _) (Nat.zero_le _) dX4_readShot_42 rfl rfl ?_
      have t_I3 : rdT I3 T n (e0) := by rw [eI3]; exact rdT_w h
      have w_I3 : I3 214 11 = 1 := by rw [eI3, fup_s]
      have o_I3 : rdO I I3 := by rw [eI3]; exact rdO_tr (rdO_r I) (rdO_11 _ _)
      refine fV_istore_n (lv' := [(1, .int (i32 (rdV T n e0))), (0, .ref (Γ.1 214))]) (pc' := 46) G dX4_readShot_45 rfl (by decide) rfl rfl ?_
      refine fV_aload_n (pc' := 47) G 1 dX4_readShot_46 rfl rfl rfl ?_
      refine fV_aload_n (pc' := 48) G 1 dX4_readShot_47 rfl rfl rfl ?_
      refine fV_get (K := 4) (v := .int (i32 (I3 214 9))) (pc' := 51) G kfX4_readShot_145 (by omega) rfl rfl rfl dX4_readShot_48 rfl ?_
      refine fV_top (b := rdK T n e0) (by rw [t_I3.2.2.2.2.1]) ?_
      refine fV_iconst (pc' := 52) G dX4_readShot_51 rfl ?_
      refine fV_icmp_ne (tgt := 59) (pc' := 55) G dX4_readShot_52 (by decide) rfl (by omega) (by decide) (fun c4 => ?_) (fun c4 => ?_)
      · refine fV_iconst (pc' := 60) G dX4_readShot_59 rfl ?_
        refine fV_callVf (st' := [.int (i32 (rdV T n e0))]) (n := 1) (k := 214) (K := 4) (As := [.int (i32 0)]) (rest := []) (pc' := 63) G (mX4_acc_w l Γ hN I3 P 0 (by omega) hn hT (by omega) t_I3 w_I3) kcX4_readShot_165 (by omega) rfl rfl rfl rfl (Nat.le_of_ble_eq_true rfl) (Nat.zero_le _) (Nat.zero_le _) dX4_readShot_60 rfl rfl ?_
        refine fV_pop (pc' := 64) G dX4_readShot_63 rfl rfl ?_
        refine fV_aload_n (pc' := 65) G 1 dX4_readShot_64 rfl rfl rfl ?_
        refine fV_get (K := 4) (v := .int (i32 (I3 214 11))) (pc' := 68) G kfX4_readShot_158 (by omega) rfl rfl rfl dX4_readShot_65 rfl ?_
        refine fV_top (b := 1) (by rw [w_I3]) ?_
        refine fV_if_ne (tgt := 76) (pc' := 71) G dX4_readShot_68 (by decide) rfl (by omega) (fun c5 => ?_) (fun c5 => ?_)
        · refine fV_vret G dX4_readShot_76 ?_
          have qn := rd_num (T := T) (n := n) (e := e0) (lo := 1) (hi := 3000) (by omega) (by decide) (by decide)
          have hx : ¬ ((1 ≤ tNum T n e0 ∧ tNum T n e0 ≤ 3000) ∧ hasSB (I 215) (tNum T n e0) = false) := by rintro ⟨z1, z2⟩; have z3 := qn.1.mpr z1; have z4 := qn.2 z1.1 z1.2; first | omega | (have z5 := qh.1; rw [z4] at z5; exact absurd (z5.mpr (fun z6 => by rw [hasSB_iff.mpr z6] at z2; cases z2)) (by rw [← z4]; omega))
          exact ⟨rfl, by unfold pShot; rw [if_neg hx]; exact rdI_e t_I3 rfl w_I3 o_I3, rfl⟩
        · exact absurd c5 (by decide)
      · refine fV_iconst (pc' := 56) G dX4_readShot_55 rfl ?_
        refine fV_goto (tgt := 60) G dX4_readShot_56 (by decide) ?_
        refine fV_callVf (st' := [.int (i32 (rdV T n e0))]) (n := 1) (k := 214) (K := 4) (As := [.int (i32 1)]) (rest := []) (pc' := 63) G (mX4_acc_w l Γ hN I3 P 1 (by omega) hn hT (by omega) t_I3 w_I3) kcX4_readShot_165 (by omega) rfl rfl rfl rfl (Nat.le_of_ble_eq_true rfl) (Nat.zero_le _) (Nat.zero_le _) dX4_readShot_60 rfl rfl ?_
        refine fV_pop (pc' := 64) G dX4_readShot_63 rfl rfl ?_
        refine fV_aload_n (pc' := 65) G 1 dX4_readShot_64 rfl rfl rfl ?_
        refine fV_get (K := 4) (v := .int (i32 (I3 214 11))) (pc' := 68) G kfX4_readShot_158 (by omega) rfl rfl rfl dX4_readShot_65 rfl ?_
        refine fV_top (b := 1) (by rw [w_I3]) ?_
        refine fV_if_ne (tgt := 76) (pc' := 71) G dX4_readShot_68 (by decide) rfl (by omega) (fun c5 => ?_) (fun c5 => ?_)
        · refine fV_vret G dX4_readShot_76 ?_
          have qn := rd_num (T := T) (n := n) (e := e0) (lo := 1) (hi := 3000) (by omega) (by decide) (by decide)
          have hx : ¬ ((1 ≤ tNum T n e0 ∧ tNum T n e0 ≤ 3000) ∧ hasSB (I 215) (tNum T n e0) = false) := by rintro ⟨z1, z2⟩; have z3 := qn.1.mpr z1; have z4 := qn.2 z1.1 z1.2; first | omega | (have z5 := qh.1; rw [z4] at z5; exact absurd (z5.mpr (fun z6 => by rw [hasSB_iff.mpr z6] at z2; cases z2)) (by rw [← z4]; omega))
          exact ⟨rfl, by unfold pShot; rw [if_neg hx]; exact rdI_e t_I3 rfl w_I3 o_I3, rfl⟩
        · exact absurd c5 (by decide)
    · have d2 : (1 ≤ (rdV T n e0) ∧ (rdV T n e0) ≤ 3000) := of_decide_eq_true c2
      refine fV_aload_n (pc' := 24) G 0 dX4_readShot_23 rfl rfl rfl ?_
      refine fV_aload_n (pc' := 25) G 0 dX4_readShot_24 rfl rfl rfl ?_
      refine fV_get (K := 4) (v := .long (i64 (I 214 10))) (pc' := 28) G kfX4_readShot_137 (by omega) rfl rfl rfl dX4_readShot_25 rfl ?_
      refine fV_st (st' := [.long (i64 (rdV T n e0)), .ref (Γ.1 214), .ref (Γ.1 214)]) (by rw [h.2.2.2.2.2]) ?_
      refine fV_l2i (pc' := 29) G dX4_readShot_28 rfl (by omega) ?_
      have qh := qM_has (f := rdV T n e0) hv1
      refine fV_callVf (st' := [.int (i32 (qMShotOf I (rdV T n e0))), .ref (Γ.1 214)]) (n := 1) (k := 214) (K := 4) (As := [.int (i32 (rdV T n e0))]) (rest := [.ref (Γ.1 214)]) (pc' := 32) G (mX4_shotOf l Γ hN I P hm.1 (rdV T n e0) (by omega)) kcX4_readShot_112 (by omega) rfl rfl rfl rfl (Nat.le_of_ble_eq_true rfl) (Nat.zero_le _) (Nat.zero_le _) dX4_readShot_29 rfl rfl ?_
      refine fV_bipush (n := -19) (pc' := 34) G dX4_readShot_32 rfl rfl ?_
      refine fV_icmp_ne (tgt := 41) (pc' := 37) G dX4_readShot_34 (by decide) rfl (by omega) (by decide) (fun c3 => ?_) (fun c3 => ?_)
      · refine fV_iconst (pc' := 42) G dX4_readShot_41 rfl ?_
        obtain ⟨I4, eI4⟩ : ∃ J9 : fM, J9 = fup I 214 11 1 := ⟨_, rfl⟩
        refine fV_callVf (I' := I4) (st' := [.int (i32 (rdV T n e0))]) (n := 1) (k := 214) (K := 4) (As := [.int (i32 0)]) (rest := []) (pc' := 45) G (by rw [eI4]; exact mX4_acc_n l Γ hN I P hn hT (by omega) h h11) kcX4_readShot_165 (by omega) rfl rfl rfl rfl (Nat.le_of_ble_eq_true rfl) (Nat.zero_le _) (Nat.zero_le _) dX4_readShot_42 rfl rfl ?_
        have t_I4 : rdT I4 T n (e0) := by rw [eI4]; exact rdT_w h
        have w_I4 : I4 214 11 = 1 := by rw [eI4, fup_s]
        have o_I4 : rdO I I4 := by rw [eI4]; exact rdO_tr (rdO_r I) (rdO_11 _ _)
        refine fV_istore_n (lv' := [(1, .int (i32 (rdV T n e0))), (0, .ref (Γ.1 214))]) (pc' := 46) G dX4_readShot_45 rfl (by decide) rfl rfl ?_
        refine fV_aload_n (pc' := 47) G 1 dX4_readShot_46 rfl rfl rfl ?_
        refine fV_aload_n (pc' := 48) G 1 dX4_readShot_47 rfl rfl rfl ?_
        refine fV_get (K := 4) (v := .int (i32 (I4 214 9))) (pc' := 51) G kfX4_readShot_145 (by omega) rfl rfl rfl dX4_readShot_48 rfl ?_
        refine fV_top (b := rdK T n e0) (by rw [t_I4.2.2.2.2.1]) ?_
        refine fV_iconst (pc' := 52) G dX4_readShot_51 rfl ?_
        refine fV_icmp_ne (tgt := 59) (pc' := 55) G dX4_readShot_52 (by decide) rfl (by omega) (by decide) (fun c5 => ?_) (fun c5 => ?_)
        · refine fV_iconst (pc' := 60) G dX4_readShot_59 rfl ?_
          refine fV_callVf (st' := [.int (i32 (rdV T n e0))]) (n := 1) (k := 214) (K := 4) (As := [.int (i32 0)]) (rest := []) (pc' := 63) G (mX4_acc_w l Γ hN I4 P 0 (by omega) hn hT (by omega) t_I4 w_I4) kcX4_readShot_165 (by omega) rfl rfl rfl rfl (Nat.le_of_ble_eq_true rfl) (Nat.zero_le _) (Nat.zero_le _) dX4_readShot_60 rfl rfl ?_
          refine fV_pop (pc' := 64) G dX4_readShot_63 rfl rfl ?_
          refine fV_aload_n (pc' := 65) G 1 dX4_readShot_64 rfl rfl rfl ?_
          refine fV_get (K := 4) (v := .int (i32 (I4 214 11))) (pc' := 68) G kfX4_readShot_158 (by omega) rfl rfl rfl dX4_readShot_65 rfl ?_
          refine fV_top (b := 1) (by rw [w_I4]) ?_
          refine fV_if_ne (tgt := 76) (pc' := 71) G dX4_readShot_68 (by decide) rfl (by omega) (fun c6 => ?_) (fun c6 => ?_)
          · refine fV_vret G dX4_readShot_76 ?_
            have qn := rd_num (T := T) (n := n) (e := e0) (lo := 1) (hi := 3000) (by omega) (by decide) (by decide)
            have hx : ¬ ((1 ≤ tNum T n e0 ∧ tNum T n e0 ≤ 3000) ∧ hasSB (I 215) (tNum T n e0) = false) := by rintro ⟨z1, z2⟩; have z3 := qn.1.mpr z1; have z4 := qn.2 z1.1 z1.2; first | omega | (have z5 := qh.1; rw [z4] at z5; exact absurd (z5.mpr (fun z6 => by rw [hasSB_iff.mpr z6] at z2; cases z2)) (by rw [← z4]; omega))
            exact ⟨rfl, by unfold pShot; rw [if_neg hx]; exact rdI_e t_I4 rfl w_I4 o_I4, rfl⟩
          · exact absurd c6 (by decide)
        · refine fV_iconst (pc' := 56) G dX4_readShot_55 rfl ?_
          refine fV_goto (tgt := 60) G dX4_readShot_56 (by decide) ?_
          refine fV_callVf (st' := [.int (i32 (rdV T n e0))]) (n := 1) (k := 214) (K := 4) (As := [.int (i32 1)]) (rest := []) (pc' := 63) G (mX4_acc_w l Γ hN I4 P 1 (by omega) hn hT (by omega) t_I4 w_I4) kcX4_readShot_165 (by omega) rfl rfl rfl rfl (Nat.le_of_ble_eq_true rfl) (Nat.zero_le _) (Nat.zero_le _) dX4_readShot_60 rfl rfl ?_
          refine fV_pop (pc' := 64) G dX4_readShot_63 rfl rfl ?_
          refine fV_aload_n (pc' := 65) G 1 dX4_readShot_64 rfl rfl rfl ?_
          refine fV_get (K := 4) (v := .int (i32 (I4 214 11))) (pc' := 68) G kfX4_readShot_158 (by omega) rfl rfl rfl dX4_readShot_65 rfl ?_
          refine fV_top (b := 1) (by rw [w_I4]) ?_
          refine fV_if_ne (tgt := 76) (pc' := 71) G dX4_readShot_68 (by decide) rfl (by omega) (fun c6 => ?_) (fun c6 => ?_)
          · refine fV_vret G dX4_readShot_76 ?_
            have qn := rd_num (T := T) (n := n) (e := e0) (lo := 1) (hi := 3000) (by omega) (by decide) (by decide)
            have hx : ¬ ((1 ≤ tNum T n e0 ∧ tNum T n e0 ≤ 3000) ∧ hasSB (I 215) (tNum T n e0) = false) := by rintro ⟨z1, z2⟩; have z3 := qn.1.mpr z1; have z4 := qn.2 z1.1 z1.2; first | omega | (have z5 := qh.1; rw [z4] at z5; exact absurd (z5.mpr (fun z6 => by rw [hasSB_iff.mpr z6] at z2; cases z2)) (by rw [← z4]; omega))
            exact ⟨rfl, by unfold pShot; rw [if_neg hx]; exact rdI_e t_I4 rfl w_I4 o_I4, rfl⟩
          · exact absurd c6 (by decide)
      · refine fV_iconst (pc' := 38) G dX4_readShot_37 rfl ?_
        refine fV_goto (tgt := 42) G dX4_readShot_38 (by decide) ?_
        have qn := rd_num (T := T) (n := n) (e := e0) (lo := 1) (hi := 3000) (by omega) (by decide) (by decide)
        have hnu := qn.1.mp ⟨by omega, by omega, by omega⟩
        have hev := qn.2 hnu.1 hnu.2
        have hno : hasSB (I 215) (tNum T n e0) = false := by cases hq : hasSB (I 215) (tNum T n e0); rfl; exact absurd (hasSB_iff.mp hq) (by rw [← hev]; exact qh.1.mp (by omega))
        obtain ⟨I4, eI4⟩ : ∃ J9 : fM, J9 = rdS I := ⟨_, rfl⟩
        refine fV_callVf (I' := I4) (st' := [.int (i32 (rdV T n e0))]) (n := 1) (k := 214) (K := 4) (As := [.int (i32 1)]) (rest := []) (pc' := 45) G (by rw [eI4]; exact mX4_acc_y l Γ hN I P hn hT (by omega) h h11) kcX4_readShot_165 (by omega) rfl rfl rfl rfl (Nat.le_of_ble_eq_true rfl) (Nat.zero_le _) (Nat.zero_le _) dX4_readShot_42 rfl rfl ?_
        have t_I4 : rdT I4 T n (tE T n e0) := by rw [eI4]; exact rdT_n h
        have w_I4 : I4 214 11 = 0 := by rw [eI4, rdS_11]; exact h11
        have o_I4 : rdO I I4 := by rw [eI4]; exact rdO_tr (rdO_r I) (rdO_s _)
        have sb_I4 := tS_b (T := T) (n := n) (e := tE T n e0) (by omega)
        have ez_I4 := tE_b (T := T) (n := n) (e := tE T n e0) (by omega)
        have eb_I4 := And.intro ez_I4.1 ez_I4.2.1
        clear ez_I4
        have kb_I4 := rdK_b T n (tE T n e0)
        have vb_I4 := rdV_b (T := T) (n := n) (e := tE T n e0) (by omega)
        have nb_I4 := tNum_ge (T := T) (n := n) (e := tE T n e0) (by omega)
        refine fV_istore_n (lv' := [(1, .int (i32 (rdV T n e0))), (0, .ref (Γ.1 214))]) (pc' := 46) G dX4_readShot_45 rfl (by decide) rfl rfl ?_
        refine fV_aload_n (pc' := 47) G 1 dX4_readShot_46 rfl rfl rfl ?_
        refine fV_aload_n (pc' := 48) G 1 dX4_readShot_47 rfl rfl rfl ?_
        refine fV_get (K := 4) (v := .int (i32 (I4 214 9))) (pc' := 51) G kfX4_readShot_145 (by omega) rfl rfl rfl dX4_readShot_48 rfl ?_
        refine fV_top (b := rdK T n (tE T n e0)) (by rw [t_I4.2.2.2.2.1]) ?_
        refine fV_iconst (pc' := 52) G dX4_readShot_51 rfl ?_
        refine fV_icmp_ne (tgt := 59) (pc' := 55) G dX4_readShot_52 (by decide) rfl (by omega) (by decide) (fun c5 => ?_) (fun c5 => ?_)
        · refine fV_iconst (pc' := 60) G dX4_readShot_59 rfl ?_
          obtain ⟨I6, eI6⟩ : ∃ J9 : fM, J9 = fup I4 214 11 1 := ⟨_, rfl⟩
          refine fV_callVf (I' := I6) (st' := [.int (i32 (rdV T n (tE T n e0)))]) (n := 1) (k := 214) (K := 4) (As := [.int (i32 0)]) (rest := []) (pc' := 63) G (by rw [eI6]; exact mX4_acc_n l Γ hN I4 P hn hT (by omega) t_I4 w_I4) kcX4_readShot_165 (by omega) rfl rfl rfl rfl (Nat.le_of_ble_eq_true rfl) (Nat.zero_le _) (Nat.zero_le _) dX4_readShot_60 rfl rfl ?_
          have t_I6 : rdT I6 T n (tE T n e0) := by rw [eI6]; exact rdT_w t_I4
          have w_I6 : I6 214 11 = 1 := by rw [eI6, fup_s]
          have o_I6 : rdO I I6 := by rw [eI6]; exact rdO_tr o_I4 (rdO_11 _ _)
          refine fV_pop (pc' := 64) G dX4_readShot_63 rfl rfl ?_
          refine fV_aload_n (pc' := 65) G 1 dX4_readShot_64 rfl rfl rfl ?_
          refine fV_get (K := 4) (v := .int (i32 (I6 214 11))) (pc' := 68) G kfX4_readShot_158 (by omega) rfl rfl rfl dX4_readShot_65 rfl ?_
          refine fV_top (b := 1) (by rw [w_I6]) ?_
          refine fV_if_ne (tgt := 76) (pc' := 71) G dX4_readShot_68 (by decide) rfl (by omega) (fun c7 => ?_) (fun c7 => ?_)
          · refine fV_vret G dX4_readShot_76 ?_
            exact ⟨rfl, by unfold pShot; rw [if_pos ⟨hnu, hno⟩, if_neg (fun z => by have := rdK_2.mpr z; omega)]; exact rdI_e t_I6 rfl w_I6 o_I6, rfl⟩
          · exact absurd c7 (by decide)
        · refine fV_iconst (pc' := 56) G dX4_readShot_55 rfl ?_
          refine fV_goto (tgt := 60) G dX4_readShot_56 (by decide) ?_
          obtain ⟨I6, eI6⟩ : ∃ J9 : fM, J9 = rdS I4 := ⟨_, rfl⟩
          refine fV_callVf (I' := I6) (st' := [.int (i32 (rdV T n (tE T n e0)))]) (n := 1) (k := 214) (K := 4) (As := [.int (i32 1)]) (rest := []) (pc' := 63) G (by rw [eI6]; exact mX4_acc_y l Γ hN I4 P hn hT (by omega) t_I4 w_I4) kcX4_readShot_165 (by omega) rfl rfl rfl rfl (Nat.le_of_ble_eq_true rfl) (Nat.zero_le _) (Nat.zero_le _) dX4_readShot_60 rfl rfl ?_
          have t_I6 : rdT I6 T n (tE T n (tE T n e0)) := by rw [eI6]; exact rdT_n t_I4
          have w_I6 : I6 214 11 = 0 := by rw [eI6, rdS_11]; exact w_I4
          have o_I6 : rdO I I6 := by rw [eI6]; exact rdO_tr o_I4 (rdO_s _)
          have sb_I6 := tS_b (T := T) (n := n) (e := tE T n (tE T n e0)) (by omega)
          have ez_I6 := tE_b (T := T) (n := n) (e := tE T n (tE T n e0)) (by omega)
          have eb_I6 := And.intro ez_I6.1 ez_I6.2.1
          clear ez_I6
          have kb_I6 := rdK_b T n (tE T n (tE T n e0))
          have vb_I6 := rdV_b (T := T) (n := n) (e := tE T n (tE T n e0)) (by omega)
          have nb_I6 := tNum_ge (T := T) (n := n) (e := tE T n (tE T n e0)) (by omega)
          refine fV_pop (pc' := 64) G dX4_readShot_63 rfl rfl ?_
          refine fV_aload_n (pc' := 65) G 1 dX4_readShot_64 rfl rfl rfl ?_
          refine fV_get (K := 4) (v := .int (i32 (I6 214 11))) (pc' := 68) G kfX4_readShot_158 (by omega) rfl rfl rfl dX4_readShot_65 rfl ?_
          refine fV_top (b := 0) (by rw [w_I6]) ?_
          refine fV_if_ne (tgt := 76) (pc' := 71) G dX4_readShot_68 (by decide) rfl (by omega) (fun c7 => ?_) (fun c7 => ?_)
          · exact absurd c7 (by decide)
          · refine fV_aload_n (pc' := 72) G 1 dX4_readShot_71 rfl rfl rfl ?_
            refine fV_iload_n (pc' := 73) G 0 dX4_readShot_72 rfl rfl rfl ?_
            have e5_I6 : I6 215 = I 215 := o_I6.1 215 (by decide)
            obtain ⟨I8, eI8⟩ : ∃ J9 : fM, J9 = fup (fIns I6 215 3 (I6 215 1) (pIns (fun i => I6 215 (3 + i)) (rdV T n e0) (I6 215 1).toNat) (rdV T n e0)) 215 1 (I6 215 1 + 1) := ⟨_, rfl⟩
            refine fV_callVf (I' := I8) (st' := []) (n := 1) (k := 214) (K := 4) (As := [.int (i32 (rdV T n e0))]) (rest := []) (pc' := 76) G (by rw [eI8]; exact mX4_makeShot l Γ hN I6 P (mOkr_sv e5_I6 hm) (by rw [e5_I6]; exact h10) (rdV T n e0) (by omega)) kcX4_readShot_115 (by omega) rfl rfl rfl rfl (Nat.le_of_ble_eq_true rfl) (Nat.zero_le _) (Nat.zero_le _) dX4_readShot_73 rfl rfl ?_
            refine fV_vret G dX4_readShot_76 ?_
            have hk3 := rdK_2 (T := T) (n := n) (e := tE T n e0)
            have e5 : I6 215 = I 215 := o_I6.1 215 (by decide)
            exact ⟨rfl, by unfold pShot; rw [if_pos ⟨hnu, hno⟩, if_pos (hk3.mp (by omega))]; exact ⟨by rw [eI8, fup_k (by decide)]; unfold fIns; rw [if_neg (by omega), if_neg (by omega)]; exact w_I6, rdT_o t_I6 (by rw [eI8, fup_ne (by decide)]; funext b; unfold fIns; rw [if_neg (by omega), if_neg (by omega)]) (fun b b1 b2 => by rw [eI8, fup_k (by decide)]; unfold fIns; rw [if_neg (by omega), if_neg (by omega)]), by rw [eI8, rShot_eq, e5, hev], fun a a1 a2 => by rw [eI8, fup_ne a2]; funext b; unfold fIns; rw [if_neg (by omega), if_neg (by omega)]; rw [o_I6.1 a a1], fun b hb => by rw [eI8, fup_k (by decide)]; unfold fIns; rw [if_neg (by omega), if_neg (by omega)]; exact o_I6.2 b hb, hnu, by omega, by omega⟩, rfl⟩
set_option maxHeartbeats 4000000 in
set_option maxRecDepth 100000 in
theorem mX4_readWord (l : Launch) (Γ : fG) {N : Nat} (hN : 220 ≤ N) (I : fM) (P : fN) {T : Int → Int} {n : Int} (hn : 0 ≤ n ∧ n ≤ 160) (hT : tOk T n) {e0 : Int} (he : 0 ≤ e0 ∧ e0 ≤ n) (h : rdT I T n e0) (h11 : I 214 11 = 0) (hm : mOkr (I 215)) (h12 : I 215 0 < 12) : fMet l yX4_readWord wsX4_readWord rmX4_readWord Γ N [.ref (Γ.1 214)] I P (fun v J Q => v = none ∧ rdI I T n (pWord T n e0) J ∧ Q = P) := by
  refine fMet_of (own := RX4) (cc := cX4_readWord) (maxL := 9) (ret := none) rfl (by decide +kernel) rfl (Nat.le_of_ble_eq_true rfl) ?_
  intro p e s m args below meth c G
  have sb_I := tS_b (T := T) (n := n) (e := e0) (by omega)
  have ez_I := tE_b (T := T) (n := n) (e := e0) (by omega)
  have eb_I := And.intro ez_I.1 ez_I.2.1
  clear ez_I
  have kb_I := rdK_b T n e0
  have vb_I := rdV_b (T := T) (n := n) (e := e0) (by omega)
  have nb_I := tNum_ge (T := T) (n := n) (e := e0) (by omega)
  have hv0 := hm.1.1
  have hv1 := hm.1.2.1
  refine fV_lv (lv' := [(0, .ref (Γ.1 214))]) [0] rfl ?_
  refine fV_aload_n (pc' := 1) G 0 dX4_readWord_0 rfl rfl rfl ?_
  refine fV_get (K := 4) (v := .int (i32 (I 214 8))) (pc' := 4) G kfX4_readWord_134 (by omega) rfl rfl rfl dX4_readWord_1 rfl ?_
  refine fV_top (b := tS T n e0) (by rw [h.2.2.2.1]) ?_
  refine fV_istore_n (lv' := [(1, .int (i32 (tS T n e0))), (0, .ref (Γ.1 214))]) (pc' := 5) G dX4_readWord_4 rfl (by decide) rfl rfl ?_
  refine fV_aload_n (pc' := 6) G 1 dX4_readWord_5 rfl rfl rfl ?_
  refine fV_get (K := 4) (v := .int (i32 (I 214 7))) (pc' := 9) G kfX4_readWord_127 (by omega) rfl rfl rfl dX4_readWord_6 rfl ?_
  refine fV_top (b := tE T n e0) (by rw [h.2.2.1]) ?_
  refine fV_aload_n (pc' := 10) G 1 dX4_readWord_9 rfl rfl rfl ?_
  refine fV_get (K := 4) (v := .int (i32 (I 214 8))) (pc' := 13) G kfX4_readWord_134 (by omega) rfl rfl rfl dX4_readWord_10 rfl ?_
  refine fV_top (b := tS T n e0) (by rw [h.2.2.2.1]) ?_
  refine fV_isub (pc' := 14) G dX4_readWord_13 rfl ?_
  refine fV_istore_n (lv' := [(2, .int (i32 ((tE T n e0) - (tS T n e0)))), (1, .int (i32 (tS T n e0))), (0, .ref (Γ.1 214))]) (pc' := 15) G dX4_readWord_14 rfl (by decide) rfl rfl ?_
  refine fV_aload_n (pc' := 16) G 2 dX4_readWord_15 rfl rfl rfl ?_
  refine fV_aload_n (pc' := 17) G 2 dX4_readWord_16 rfl rfl rfl ?_
  refine fV_get (K := 4) (v := .int (i32 (I 214 9))) (pc' := 20) G kfX4_readWord_145 (by omega) rfl rfl rfl dX4_readWord_17 rfl ?_
  refine fV_top (b := rdK T n e0) (by rw [h.2.2.2.2.1]) ?_
  refine fV_if_ne (tgt := 33) (pc' := 23) G dX4_readWord_20 (by decide) rfl (by omega) (fun c1 => ?_) (fun c1 => ?_)
  · refine fV_iconst (pc' := 34) G dX4_readWord_33 rfl ?_
    have hnk : ¬ (tK T n e0 = 1 ∧ tE T n e0 - tS T n e0 ≤ 12) := fun z => by have := rdK_0.mpr z.1; omega
    obtain ⟨I2, eI2⟩ : ∃ J9 : fM, J9 = fup I 214 11 1 := ⟨_, rfl⟩
    refine fV_callVf (I' := I2) (st' := [.int (i32 (rdV T n e0))]) (n := 1) (k := 214) (K := 4) (As := [.int (i32 0)]) (rest := []) (pc' := 37) G (by rw [eI2]; exact mX4_acc_n l Γ hN I P hn hT (by omega) h h11) kcX4_readWord_165 (by omega) rfl rfl rfl rfl (Nat.le_of_ble_eq_true rfl) (Nat.zero_le _) (Nat.zero_le _) dX4_readWord_34 rfl rfl ?_
    have t_I2 : rdT I2 T n (e0) := by rw [eI2]; exact rdT_w h
    have w_I2 : I2 214 11 = 1 := by rw [eI2, fup_s]
    have o_I2 : rdO I I2 := by rw [eI2]; exact rdO_tr (rdO_r I) (rdO_11 _ _)
    refine fV_pop (pc' := 38) G dX4_readWord_37 rfl rfl ?_
    refine fV_aload_n (pc' := 39) G 2 dX4_readWord_38 rfl rfl rfl ?_
    refine fV_iconst (pc' := 40) G dX4_readWord_39 rfl ?_
    refine fV_sipush (n := 2000) (pc' := 43) G dX4_readWord_40 rfl rfl ?_
    refine fV_callVf (st' := [.int (i32 (rdV T n e0))]) (n := 2) (k := 214) (K := 4) (As := [.int (i32 0), .int (i32 2000)]) (rest := []) (pc' := 46) G (mX4_num_w l Γ hN I2 P 0 2000 (by decide) (by decide) hn hT (by omega) t_I2 w_I2) kcX4_readWord_177 (by omega) rfl rfl rfl rfl (Nat.le_of_ble_eq_true rfl) (Nat.zero_le _) (Nat.zero_le _) dX4_readWord_43 rfl rfl ?_
    refine fV_istore_n (lv' := [(3, .int (i32 (rdV T n e0))), (2, .int (i32 ((tE T n e0) - (tS T n e0)))), (1, .int (i32 (tS T n e0))), (0, .ref (Γ.1 214))]) (pc' := 47) G dX4_readWord_46 rfl (by decide) rfl rfl ?_
    refine fV_aload_n (pc' := 48) G 3 dX4_readWord_47 rfl rfl rfl ?_
    refine fV_iconst (pc' := 49) G dX4_readWord_48 rfl ?_
    refine fV_bipush (n := 60) (pc' := 51) G dX4_readWord_49 rfl rfl ?_
    refine fV_callVf (st' := [.int (i32 (rdV T n e0))]) (n := 2) (k := 214) (K := 4) (As := [.int (i32 1), .int (i32 60)]) (rest := []) (pc' := 54) G (mX4_num_w l Γ hN I2 P 1 60 (by decide) (by decide) hn hT (by omega) t_I2 w_I2) kcX4_readWord_177 (by omega) rfl rfl rfl rfl (Nat.le_of_ble_eq_true rfl) (Nat.zero_le _) (Nat.zero_le _) dX4_readWord_51 rfl rfl ?_
    refine fV_istore (lv' := [(4, .int (i32 (rdV T n e0))), (3, .int (i32 (rdV T n e0))), (2, .int (i32 ((tE T n e0) - (tS T n e0)))), (1, .int (i32 (tS T n e0))), (0, .ref (Γ.1 214))]) (pc' := 56) G dX4_readWord_54 (by decide) rfl rfl ?_
    refine fV_aload_n (pc' := 57) G 4 dX4_readWord_56 rfl rfl rfl ?_
    refine fV_iconst (pc' := 58) G dX4_readWord_57 rfl ?_
    refine fV_bipush (n := 60) (pc' := 60) G dX4_readWord_58 rfl rfl ?_
    refine fV_callVf (st' := [.int (i32 (rdV T n e0))]) (n := 2) (k := 214) (K := 4) (As := [.int (i32 0), .int (i32 60)]) (rest := []) (pc' := 63) G (mX4_num_w l Γ hN I2 P 0 60 (by decide) (by decide) hn hT (by omega) t_I2 w_I2) kcX4_readWord_177 (by omega) rfl rfl rfl rfl (Nat.le_of_ble_eq_true rfl) (Nat.zero_le _) (Nat.zero_le _) dX4_readWord_60 rfl rfl ?_
    refine fV_istore (lv' := [(5, .int (i32 (rdV T n e0))), (4, .int (i32 (rdV T n e0))), (3, .int (i32 (rdV T n e0))), (2, .int (i32 ((tE T n e0) - (tS T n e0)))), (1, .int (i32 (tS T n e0))), (0, .ref (Γ.1 214))]) (pc' := 65) G dX4_readWord_63 (by decide) rfl rfl ?_
    refine fV_aload_n (pc' := 66) G 5 dX4_readWord_65 rfl rfl rfl ?_
    refine fV_get (K := 4) (v := .int (i32 (I2 214 11))) (pc' := 69) G kfX4_readWord_158 (by omega) rfl rfl rfl dX4_readWord_66 rfl ?_
    refine fV_top (b := 1) (by rw [w_I2]) ?_
    refine fV_if_eq (tgt := 76) (pc' := 72) G dX4_readWord_69 (by decide) rfl (by omega) (fun c3 => ?_) (fun c3 => ?_)
    · exact absurd c3 (by decide)
    · refine fV_iconst (pc' := 73) G dX4_readWord_72 rfl ?_
      refine fV_goto (tgt := 80) G dX4_readWord_73 (by decide) ?_
      refine fV_istore (lv' := [(6, .int (i32 0)), (5, .int (i32 (rdV T n e0))), (4, .int (i32 (rdV T n e0))), (3, .int (i32 (rdV T n e0))), (2, .int (i32 ((tE T n e0) - (tS T n e0)))), (1, .int (i32 (tS T n e0))), (0, .ref (Γ.1 214))]) (pc' := 82) G dX4_readWord_80 (by decide) rfl rfl ?_
      refine fV_iload (pc' := 84) G 0 dX4_readWord_82 rfl rfl ?_
      refine fV_if_le (tgt := 93) (pc' := 87) G dX4_readWord_84 (by decide) rfl (by omega) (fun c4 => ?_) (fun c4 => ?_)
      · refine fV_aload_n (pc' := 94) G 6 dX4_readWord_93 rfl rfl rfl ?_
        refine fV_aload_n (pc' := 95) G 6 dX4_readWord_94 rfl rfl rfl ?_
        refine fV_get (K := 4) (v := .int (i32 (I2 214 9))) (pc' := 98) G kfX4_readWord_145 (by omega) rfl rfl rfl dX4_readWord_95 rfl ?_
        refine fV_top (b := rdK T n e0) (by rw [t_I2.2.2.2.2.1]) ?_
        refine fV_iconst (pc' := 99) G dX4_readWord_98 rfl ?_
        refine fV_icmp_ne (tgt := 106) (pc' := 102) G dX4_readWord_99 (by decide) rfl (by omega) (by decide) (fun c5 => ?_) (fun c5 => ?_)
        · refine fV_iconst (pc' := 107) G dX4_readWord_106 rfl ?_
          refine fV_callVf (st' := [.int (i32 (rdV T n e0))]) (n := 1) (k := 214) (K := 4) (As := [.int (i32 0)]) (rest := []) (pc' := 110) G (mX4_acc_w l Γ hN I2 P 0 (by omega) hn hT (by omega) t_I2 w_I2) kcX4_readWord_165 (by omega) rfl rfl rfl rfl (Nat.le_of_ble_eq_true rfl) (Nat.zero_le _) (Nat.zero_le _) dX4_readWord_107 rfl rfl ?_
          refine fV_pop (pc' := 111) G dX4_readWord_110 rfl rfl ?_
          refine fV_aload_n (pc' := 112) G 6 dX4_readWord_111 rfl rfl rfl ?_
          refine fV_get (K := 4) (v := .int (i32 (I2 214 11))) (pc' := 115) G kfX4_readWord_158 (by omega) rfl rfl rfl dX4_readWord_112 rfl ?_
          refine fV_top (b := 1) (by rw [w_I2]) ?_
          refine fV_if_ne (tgt := 167) (pc' := 118) G dX4_readWord_115 (by decide) rfl (by omega) (fun c6 => ?_) (fun c6 => ?_)
          · refine fV_vret G dX4_readWord_167 ?_
            exact ⟨rfl, by unfold pWord; rw [if_neg hnk]; exact rdI_e t_I2 rfl w_I2 o_I2, rfl⟩
          · exact absurd c6 (by decide)
        · refine fV_iconst (pc' := 103) G dX4_readWord_102 rfl ?_
          refine fV_goto (tgt := 107) G dX4_readWord_103 (by decide) ?_
          refine fV_callVf (st' := [.int (i32 (rdV T n e0))]) (n := 1) (k := 214) (K := 4) (As := [.int (i32 1)]) (rest := []) (pc' := 110) G (mX4_acc_w l Γ hN I2 P 1 (by omega) hn hT (by omega) t_I2 w_I2) kcX4_readWord_165 (by omega) rfl rfl rfl rfl (Nat.le_of_ble_eq_true rfl) (Nat.zero_le _) (Nat.zero_le _) dX4_readWord_107 rfl rfl ?_
          refine fV_pop (pc' := 111) G dX4_readWord_110 rfl rfl ?_
          refine fV_aload_n (pc' := 112) G 6 dX4_readWord_111 rfl rfl rfl ?_
          refine fV_get (K := 4) (v := .int (i32 (I2 214 11))) (pc' := 115) G kfX4_readWord_158 (by omega) rfl rfl rfl dX4_readWord_112 rfl ?_
          refine fV_top (b := 1) (by rw [w_I2]) ?_
          refine fV_if_ne (tgt := 167) (pc' := 118) G dX4_readWord_115 (by decide) rfl (by omega) (fun c6 => ?_) (fun c6 => ?_)
          · refine fV_vret G dX4_readWord_167 ?_
            exact ⟨rfl, by unfold pWord; rw [if_neg hnk]; exact rdI_e t_I2 rfl w_I2 o_I2, rfl⟩
          · exact absurd c6 (by decide)
      · exact absurd c4 (by decide)
  · refine fV_iload_n (pc' := 24) G 0 dX4_readWord_23 rfl rfl rfl ?_
    refine fV_bipush (n := 12) (pc' := 26) G dX4_readWord_24 rfl rfl ?_
    refine fV_icmp_gt (tgt := 33) (pc' := 29) G dX4_readWord_26 (by decide) rfl (by omega) (by decide) (fun c2 => ?_) (fun c2 => ?_)
    · refine fV_iconst (pc' := 34) G dX4_readWord_33 rfl ?_
      have hnk : ¬ (tK T n e0 = 1 ∧ tE T n e0 - tS T n e0 ≤ 12) := fun z => by have := rdK_0.mpr z.1; omega
      obtain ⟨I3, eI3⟩ : ∃ J9 : fM, J9 = fup I 214 11 1 := ⟨_, rfl⟩
      refine fV_callVf (I' := I3) (st' := [.int (i32 (rdV T n e0))]) (n := 1) (k := 214) (K := 4) (As := [.int (i32 0)]) (rest := []) (pc' := 37) G (by rw [eI3]; exact mX4_acc_n l Γ hN I P hn hT (by omega) h h11) kcX4_readWord_165 (by omega) rfl rfl rfl rfl (Nat.le_of_ble_eq_true rfl) (Nat.zero_le _) (Nat.zero_le _) dX4_readWord_34 rfl rfl ?_
      have t_I3 : rdT I3 T n (e0) := by rw [eI3]; exact rdT_w h
      have w_I3 : I3 214 11 = 1 := by rw [eI3, fup_s]
      have o_I3 : rdO I I3 := by rw [eI3]; exact rdO_tr (rdO_r I) (rdO_11 _ _)
      refine fV_pop (pc' := 38) G dX4_readWord_37 rfl rfl ?_
      refine fV_aload_n (pc' := 39) G 2 dX4_readWord_38 rfl rfl rfl ?_
      refine fV_iconst (pc' := 40) G dX4_readWord_39 rfl ?_
      refine fV_sipush (n := 2000) (pc' := 43) G dX4_readWord_40 rfl rfl ?_
      refine fV_callVf (st' := [.int (i32 (rdV T n e0))]) (n := 2) (k := 214) (K := 4) (As := [.int (i32 0), .int (i32 2000)]) (rest := []) (pc' := 46) G (mX4_num_w l Γ hN I3 P 0 2000 (by decide) (by decide) hn hT (by omega) t_I3 w_I3) kcX4_readWord_177 (by omega) rfl rfl rfl rfl (Nat.le_of_ble_eq_true rfl) (Nat.zero_le _) (Nat.zero_le _) dX4_readWord_43 rfl rfl ?_
      refine fV_istore_n (lv' := [(3, .int (i32 (rdV T n e0))), (2, .int (i32 ((tE T n e0) - (tS T n e0)))), (1, .int (i32 (tS T n e0))), (0, .ref (Γ.1 214))]) (pc' := 47) G dX4_readWord_46 rfl (by decide) rfl rfl ?_
      refine fV_aload_n (pc' := 48) G 3 dX4_readWord_47 rfl rfl rfl ?_
      refine fV_iconst (pc' := 49) G dX4_readWord_48 rfl ?_
      refine fV_bipush (n := 60) (pc' := 51) G dX4_readWord_49 rfl rfl ?_
      refine fV_callVf (st' := [.int (i32 (rdV T n e0))]) (n := 2) (k := 214) (K := 4) (As := [.int (i32 1), .int (i32 60)]) (rest := []) (pc' := 54) G (mX4_num_w l Γ hN I3 P 1 60 (by decide) (by decide) hn hT (by omega) t_I3 w_I3) kcX4_readWord_177 (by omega) rfl rfl rfl rfl (Nat.le_of_ble_eq_true rfl) (Nat.zero_le _) (Nat.zero_le _) dX4_readWord_51 rfl rfl ?_
      refine fV_istore (lv' := [(4, .int (i32 (rdV T n e0))), (3, .int (i32 (rdV T n e0))), (2, .int (i32 ((tE T n e0) - (tS T n e0)))), (1, .int (i32 (tS T n e0))), (0, .ref (Γ.1 214))]) (pc' := 56) G dX4_readWord_54 (by decide) rfl rfl ?_
      refine fV_aload_n (pc' := 57) G 4 dX4_readWord_56 rfl rfl rfl ?_
      refine fV_iconst (pc' := 58) G dX4_readWord_57 rfl ?_
      refine fV_bipush (n := 60) (pc' := 60) G dX4_readWord_58 rfl rfl ?_
      refine fV_callVf (st' := [.int (i32 (rdV T n e0))]) (n := 2) (k := 214) (K := 4) (As := [.int (i32 0), .int (i32 60)]) (rest := []) (pc' := 63) G (mX4_num_w l Γ hN I3 P 0 60 (by decide) (by decide) hn hT (by omega) t_I3 w_I3) kcX4_readWord_177 (by omega) rfl rfl rfl rfl (Nat.le_of_ble_eq_true rfl) (Nat.zero_le _) (Nat.zero_le _) dX4_readWord_60 rfl rfl ?_
      refine fV_istore (lv' := [(5, .int (i32 (rdV T n e0))), (4, .int (i32 (rdV T n e0))), (3, .int (i32 (rdV T n e0))), (2, .int (i32 ((tE T n e0) - (tS T n e0)))), (1, .int (i32 (tS T n e0))), (0, .ref (Γ.1 214))]) (pc' := 65) G dX4_readWord_63 (by decide) rfl rfl ?_
      refine fV_aload_n (pc' := 66) G 5 dX4_readWord_65 rfl rfl rfl ?_
      refine fV_get (K := 4) (v := .int (i32 (I3 214 11))) (pc' := 69) G kfX4_readWord_158 (by omega) rfl rfl rfl dX4_readWord_66 rfl ?_
      refine fV_top (b := 1) (by rw [w_I3]) ?_
      refine fV_if_eq (tgt := 76) (pc' := 72) G dX4_readWord_69 (by decide) rfl (by omega) (fun c4 => ?_) (fun c4 => ?_)
      · exact absurd c4 (by decide)
      · refine fV_iconst (pc' := 73) G dX4_readWord_72 rfl ?_
        refine fV_goto (tgt := 80) G dX4_readWord_73 (by decide) ?_
        refine fV_istore (lv' := [(6, .int (i32 0)), (5, .int (i32 (rdV T n e0))), (4, .int (i32 (rdV T n e0))), (3, .int (i32 (rdV T n e0))), (2, .int (i32 ((tE T n e0) - (tS T n e0)))), (1, .int (i32 (tS T n e0))), (0, .ref (Γ.1 214))]) (pc' := 82) G dX4_readWord_80 (by decide) rfl rfl ?_
        refine fV_iload (pc' := 84) G 0 dX4_readWord_82 rfl rfl ?_
        refine fV_if_le (tgt := 93) (pc' := 87) G dX4_readWord_84 (by decide) rfl (by omega) (fun c5 => ?_) (fun c5 => ?_)
        · refine fV_aload_n (pc' := 94) G 6 dX4_readWord_93 rfl rfl rfl ?_
          refine fV_aload_n (pc' := 95) G 6 dX4_readWord_94 rfl rfl rfl ?_
          refine fV_get (K := 4) (v := .int (i32 (I3 214 9))) (pc' := 98) G kfX4_readWord_145 (by omega) rfl rfl rfl dX4_readWord_95 rfl ?_
          refine fV_top (b := rdK T n e0) (by rw [t_I3.2.2.2.2.1]) ?_
          refine fV_iconst (pc' := 99) G dX4_readWord_98 rfl ?_
          refine fV_icmp_ne (tgt := 106) (pc' := 102) G dX4_readWord_99 (by decide) rfl (by omega) (by decide) (fun c6 => ?_) (fun c6 => ?_)
          · refine fV_iconst (pc' := 107) G dX4_readWord_106 rfl ?_
            refine fV_callVf (st' := [.int (i32 (rdV T n e0))]) (n := 1) (k := 214) (K := 4) (As := [.int (i32 0)]) (rest := []) (pc' := 110) G (mX4_acc_w l Γ hN I3 P 0 (by omega) hn hT (by omega) t_I3 w_I3) kcX4_readWord_165 (by omega) rfl rfl rfl rfl (Nat.le_of_ble_eq_true rfl) (Nat.zero_le _) (Nat.zero_le _) dX4_readWord_107 rfl rfl ?_
            refine fV_pop (pc' := 111) G dX4_readWord_110 rfl rfl ?_
            refine fV_aload_n (pc' := 112) G 6 dX4_readWord_111 rfl rfl rfl ?_
            refine fV_get (K := 4) (v := .int (i32 (I3 214 11))) (pc' := 115) G kfX4_readWord_158 (by omega) rfl rfl rfl dX4_readWord_112 rfl ?_
            refine fV_top (b := 1) (by rw [w_I3]) ?_
            refine fV_if_ne (tgt := 167) (pc' := 118) G dX4_readWord_115 (by decide) rfl (by omega) (fun c7 => ?_) (fun c7 => ?_)
            · refine fV_vret G dX4_readWord_167 ?_
              exact ⟨rfl, by unfold pWord; rw [if_neg hnk]; exact rdI_e t_I3 rfl w_I3 o_I3, rfl⟩
            · exact absurd c7 (by decide)
          · refine fV_iconst (pc' := 103) G dX4_readWord_102 rfl ?_
            refine fV_goto (tgt := 107) G dX4_readWord_103 (by decide) ?_
            refine fV_callVf (st' := [.int (i32 (rdV T n e0))]) (n := 1) (k := 214) (K := 4) (As := [.int (i32 1)]) (rest := []) (pc' := 110) G (mX4_acc_w l Γ hN I3 P 1 (by omega) hn hT (by omega) t_I3 w_I3) kcX4_readWord_165 (by omega) rfl rfl rfl rfl (Nat.le_of_ble_eq_true rfl) (Nat.zero_le _) (Nat.zero_le _) dX4_readWord_107 rfl rfl ?_
            refine fV_pop (pc' := 111) G dX4_readWord_110 rfl rfl ?_
            refine fV_aload_n (pc' := 112) G 6 dX4_readWord_111 rfl rfl rfl ?_
            refine fV_get (K := 4) (v := .int (i32 (I3 214 11))) (pc' := 115) G kfX4_readWord_158 (by omega) rfl rfl rfl dX4_readWord_112 rfl ?_
            refine fV_top (b := 1) (by rw [w_I3]) ?_
            refine fV_if_ne (tgt := 167) (pc' := 118) G dX4_readWord_115 (by decide) rfl (by omega) (fun c7 => ?_) (fun c7 => ?_)
            · refine fV_vret G dX4_readWord_167 ?_
              exact ⟨rfl, by unfold pWord; rw [if_neg hnk]; exact rdI_e t_I3 rfl w_I3 o_I3, rfl⟩
            · exact absurd c7 (by decide)
        · exact absurd c5 (by decide)
    · refine fV_iconst (pc' := 30) G dX4_readWord_29 rfl ?_
      refine fV_goto (tgt := 34) G dX4_readWord_30 (by decide) ?_
      have hk1 := rdK_0.mp (show rdK T n e0 = 0 by omega)
      obtain ⟨I3, eI3⟩ : ∃ J9 : fM, J9 = rdS I := ⟨_, rfl⟩
      refine fV_callVf (I' := I3) (st' := [.int (i32 (rdV T n e0))]) (n := 1) (k := 214) (K := 4) (As := [.int (i32 1)]) (rest := []) (pc' := 37) G (by rw [eI3]; exact mX4_acc_y l Γ hN I P hn hT (by omega) h h11) kcX4_readWord_165 (by omega) rfl rfl rfl rfl (Nat.le_of_ble_eq_true rfl) (Nat.zero_le _) (Nat.zero_le _) dX4_readWord_34 rfl rfl ?_
      have t_I3 : rdT I3 T n (tE T n e0) := by rw [eI3]; exact rdT_n h
      have w_I3 : I3 214 11 = 0 := by rw [eI3, rdS_11]; exact h11
      have o_I3 : rdO I I3 := by rw [eI3]; exact rdO_tr (rdO_r I) (rdO_s _)
      have sb_I3 := tS_b (T := T) (n := n) (e := tE T n e0) (by omega)
      have ez_I3 := tE_b (T := T) (n := n) (e := tE T n e0) (by omega)
      have eb_I3 := And.intro ez_I3.1 ez_I3.2.1
      clear ez_I3
      have kb_I3 := rdK_b T n (tE T n e0)
      have vb_I3 := rdV_b (T := T) (n := n) (e := tE T n e0) (by omega)
      have nb_I3 := tNum_ge (T := T) (n := n) (e := tE T n e0) (by omega)
      refine fV_pop (pc' := 38) G dX4_readWord_37 rfl rfl ?_
      refine fV_aload_n (pc' := 39) G 2 dX4_readWord_38 rfl rfl rfl ?_
      refine fV_iconst (pc' := 40) G dX4_readWord_39 rfl ?_
      refine fV_sipush (n := 2000) (pc' := 43) G dX4_readWord_40 rfl rfl ?_
      by_cases c4 : 0 ≤ tNum T n (tE T n e0) ∧ tNum T n (tE T n e0) ≤ 2000
      · obtain ⟨I5, eI5⟩ : ∃ J9 : fM, J9 = rdS I3 := ⟨_, rfl⟩
        refine fV_callVf (I' := I5) (st' := [.int (i32 (tNum T n (tE T n e0)))]) (n := 2) (k := 214) (K := 4) (As := [.int (i32 0), .int (i32 2000)]) (rest := []) (pc' := 46) G (by rw [eI5]; exact mX4_num_y l Γ hN I3 P 0 2000 (by decide) (by decide) hn hT (by omega) t_I3 w_I3 c4) kcX4_readWord_177 (by omega) rfl rfl rfl rfl (Nat.le_of_ble_eq_true rfl) (Nat.zero_le _) (Nat.zero_le _) dX4_readWord_43 rfl rfl ?_
        have t_I5 : rdT I5 T n (tE T n (tE T n e0)) := by rw [eI5]; exact rdT_n t_I3
        have w_I5 : I5 214 11 = 0 := by rw [eI5, rdS_11]; exact w_I3
        have o_I5 : rdO I I5 := by rw [eI5]; exact rdO_tr o_I3 (rdO_s _)
        have sb_I5 := tS_b (T := T) (n := n) (e := tE T n (tE T n e0)) (by omega)
        have ez_I5 := tE_b (T := T) (n := n) (e := tE T n (tE T n e0)) (by omega)
        have eb_I5 := And.intro ez_I5.1 ez_I5.2.1
        clear ez_I5
        have kb_I5 := rdK_b T n (tE T n (tE T n e0))
        have vb_I5 := rdV_b (T := T) (n := n) (e := tE T n (tE T n e0)) (by omega)
        have nb_I5 := tNum_ge (T := T) (n := n) (e := tE T n (tE T n e0)) (by omega)
        refine fV_istore_n (lv' := [(3, .int (i32 (tNum T n (tE T n e0)))), (2, .int (i32 ((tE T n e0) - (tS T n e0)))), (1, .int (i32 (tS T n e0))), (0, .ref (Γ.1 214))]) (pc' := 47) G dX4_readWord_46 rfl (by decide) rfl rfl ?_
        refine fV_aload_n (pc' := 48) G 3 dX4_readWord_47 rfl rfl rfl ?_
        refine fV_iconst (pc' := 49) G dX4_readWord_48 rfl ?_
        refine fV_bipush (n := 60) (pc' := 51) G dX4_readWord_49 rfl rfl ?_
        by_cases c6 : 1 ≤ tNum T n (tE T n (tE T n e0)) ∧ tNum T n (tE T n (tE T n e0)) ≤ 60
        · obtain ⟨I7, eI7⟩ : ∃ J9 : fM, J9 = rdS I5 := ⟨_, rfl⟩
          refine fV_callVf (I' := I7) (st' := [.int (i32 (tNum T n (tE T n (tE T n e0))))]) (n := 2) (k := 214) (K := 4) (As := [.int (i32 1), .int (i32 60)]) (rest := []) (pc' := 54) G (by rw [eI7]; exact mX4_num_y l Γ hN I5 P 1 60 (by decide) (by decide) hn hT (by omega) t_I5 w_I5 c6) kcX4_readWord_177 (by omega) rfl rfl rfl rfl (Nat.le_of_ble_eq_true rfl) (Nat.zero_le _) (Nat.zero_le _) dX4_readWord_51 rfl rfl ?_
          have t_I7 : rdT I7 T n (tE T n (tE T n (tE T n e0))) := by rw [eI7]; exact rdT_n t_I5
          have w_I7 : I7 214 11 = 0 := by rw [eI7, rdS_11]; exact w_I5
          have o_I7 : rdO I I7 := by rw [eI7]; exact rdO_tr o_I5 (rdO_s _)
          have sb_I7 := tS_b (T := T) (n := n) (e := tE T n (tE T n (tE T n e0))) (by omega)
          have ez_I7 := tE_b (T := T) (n := n) (e := tE T n (tE T n (tE T n e0))) (by omega)
          have eb_I7 := And.intro ez_I7.1 ez_I7.2.1
          clear ez_I7
          have kb_I7 := rdK_b T n (tE T n (tE T n (tE T n e0)))
          have vb_I7 := rdV_b (T := T) (n := n) (e := tE T n (tE T n (tE T n e0))) (by omega)
          have nb_I7 := tNum_ge (T := T) (n := n) (e := tE T n (tE T n (tE T n e0))) (by omega)
          refine fV_istore (lv' := [(4, .int (i32 (tNum T n (tE T n (tE T n e0))))), (3, .int (i32 (tNum T n (tE T n e0)))), (2, .int (i32 ((tE T n e0) - (tS T n e0)))), (1, .int (i32 (tS T n e0))), (0, .ref (Γ.1 214))]) (pc' := 56) G dX4_readWord_54 (by decide) rfl rfl ?_
          refine fV_aload_n (pc' := 57) G 4 dX4_readWord_56 rfl rfl rfl ?_
          refine fV_iconst (pc' := 58) G dX4_readWord_57 rfl ?_
          refine fV_bipush (n := 60) (pc' := 60) G dX4_readWord_58 rfl rfl ?_
          by_cases c8 : 0 ≤ tNum T n (tE T n (tE T n (tE T n e0))) ∧ tNum T n (tE T n (tE T n (tE T n e0))) ≤ 60
          · obtain ⟨I9, eI9⟩ : ∃ J9 : fM, J9 = rdS I7 := ⟨_, rfl⟩
            refine fV_callVf (I' := I9) (st' := [.int (i32 (tNum T n (tE T n (tE T n (tE T n e0)))))]) (n := 2) (k := 214) (K := 4) (As := [.int (i32 0), .int (i32 60)]) (rest := []) (pc' := 63) G (by rw [eI9]; exact mX4_num_y l Γ hN I7 P 0 60 (by decide) (by decide) hn hT (by omega) t_I7 w_I7 c8) kcX4_readWord_177 (by omega) rfl rfl rfl rfl (Nat.le_of_ble_eq_true rfl) (Nat.zero_le _) (Nat.zero_le _) dX4_readWord_60 rfl rfl ?_
            have t_I9 : rdT I9 T n (tE T n (tE T n (tE T n (tE T n e0)))) := by rw [eI9]; exact rdT_n t_I7
            have w_I9 : I9 214 11 = 0 := by rw [eI9, rdS_11]; exact w_I7
            have o_I9 : rdO I I9 := by rw [eI9]; exact rdO_tr o_I7 (rdO_s _)
            have sb_I9 := tS_b (T := T) (n := n) (e := tE T n (tE T n (tE T n (tE T n e0)))) (by omega)
            have ez_I9 := tE_b (T := T) (n := n) (e := tE T n (tE T n (tE T n (tE T n e0)))) (by omega)
            have eb_I9 := And.intro ez_I9.1 ez_I9.2.1
            clear ez_I9
            have kb_I9 := rdK_b T n (tE T n (tE T n (tE T n (tE T n e0))))
            have vb_I9 := rdV_b (T := T) (n := n) (e := tE T n (tE T n (tE T n (tE T n e0)))) (by omega)
            have nb_I9 := tNum_ge (T := T) (n := n) (e := tE T n (tE T n (tE T n (tE T n e0)))) (by omega)
            refine fV_istore (lv' := [(5, .int (i32 (tNum T n (tE T n (tE T n (tE T n e0)))))), (4, .int (i32 (tNum T n (tE T n (tE T n e0))))), (3, .int (i32 (tNum T n (tE T n e0)))), (2, .int (i32 ((tE T n e0) - (tS T n e0)))), (1, .int (i32 (tS T n e0))), (0, .ref (Γ.1 214))]) (pc' := 65) G dX4_readWord_63 (by decide) rfl rfl ?_
            refine fV_aload_n (pc' := 66) G 5 dX4_readWord_65 rfl rfl rfl ?_
            refine fV_get (K := 4) (v := .int (i32 (I9 214 11))) (pc' := 69) G kfX4_readWord_158 (by omega) rfl rfl rfl dX4_readWord_66 rfl ?_
            refine fV_top (b := 0) (by rw [w_I9]) ?_
            refine fV_if_eq (tgt := 76) (pc' := 72) G dX4_readWord_69 (by decide) rfl (by omega) (fun c10 => ?_) (fun c10 => ?_)
            · refine fV_aload_n (pc' := 77) G 5 dX4_readWord_76 rfl rfl rfl ?_
              refine fV_callVf (st' := [.int (i32 (tWay T n (tE T n (tE T n (tE T n (tE T n e0))))))]) (n := 0) (k := 214) (K := 4) (As := []) (rest := []) (pc' := 80) G (mX4_way_t l Γ hN I9 P hn hT (by omega) t_I9) kcX4_readWord_180 (by omega) rfl rfl rfl rfl (Nat.le_of_ble_eq_true rfl) (Nat.zero_le _) (Nat.zero_le _) dX4_readWord_77 rfl rfl ?_
              have hwb := tWay_b T n (tE T n (tE T n (tE T n (tE T n e0))))
              refine fV_istore (lv' := [(6, .int (i32 (tWay T n (tE T n (tE T n (tE T n (tE T n e0))))))), (5, .int (i32 (tNum T n (tE T n (tE T n (tE T n e0)))))), (4, .int (i32 (tNum T n (tE T n (tE T n e0))))), (3, .int (i32 (tNum T n (tE T n e0)))), (2, .int (i32 ((tE T n e0) - (tS T n e0)))), (1, .int (i32 (tS T n e0))), (0, .ref (Γ.1 214))]) (pc' := 82) G dX4_readWord_80 (by decide) rfl rfl ?_
              refine fV_iload (pc' := 84) G 0 dX4_readWord_82 rfl rfl ?_
              refine fV_if_le (tgt := 93) (pc' := 87) G dX4_readWord_84 (by decide) rfl (by omega) (fun c11 => ?_) (fun c11 => ?_)
              · have hwe := tWe_0 (T := T) (n := n) (e := tE T n (tE T n (tE T n (tE T n e0)))) (by omega)
                refine fV_aload_n (pc' := 94) G 6 dX4_readWord_93 rfl rfl rfl ?_
                refine fV_aload_n (pc' := 95) G 6 dX4_readWord_94 rfl rfl rfl ?_
                refine fV_get (K := 4) (v := .int (i32 (I9 214 9))) (pc' := 98) G kfX4_readWord_145 (by omega) rfl rfl rfl dX4_readWord_95 rfl ?_
                refine fV_top (b := rdK T n (tE T n (tE T n (tE T n (tE T n e0))))) (by rw [t_I9.2.2.2.2.1]) ?_
                refine fV_iconst (pc' := 99) G dX4_readWord_98 rfl ?_
                refine fV_icmp_ne (tgt := 106) (pc' := 102) G dX4_readWord_99 (by decide) rfl (by omega) (by decide) (fun c12 => ?_) (fun c12 => ?_)
                · refine fV_iconst (pc' := 107) G dX4_readWord_106 rfl ?_
                  obtain ⟨I13, eI13⟩ : ∃ J9 : fM, J9 = fup I9 214 11 1 := ⟨_, rfl⟩
                  refine fV_callVf (I' := I13) (st' := [.int (i32 (rdV T n (tE T n (tE T n (tE T n (tE T n e0))))))]) (n := 1) (k := 214) (K := 4) (As := [.int (i32 0)]) (rest := []) (pc' := 110) G (by rw [eI13]; exact mX4_acc_n l Γ hN I9 P hn hT (by omega) t_I9 w_I9) kcX4_readWord_165 (by omega) rfl rfl rfl rfl (Nat.le_of_ble_eq_true rfl) (Nat.zero_le _) (Nat.zero_le _) dX4_readWord_107 rfl rfl ?_
                  have t_I13 : rdT I13 T n (tE T n (tE T n (tE T n (tE T n e0)))) := by rw [eI13]; exact rdT_w t_I9
                  have w_I13 : I13 214 11 = 1 := by rw [eI13, fup_s]
                  have o_I13 : rdO I I13 := by rw [eI13]; exact rdO_tr o_I9 (rdO_11 _ _)
                  refine fV_pop (pc' := 111) G dX4_readWord_110 rfl rfl ?_
                  refine fV_aload_n (pc' := 112) G 6 dX4_readWord_111 rfl rfl rfl ?_
                  refine fV_get (K := 4) (v := .int (i32 (I13 214 11))) (pc' := 115) G kfX4_readWord_158 (by omega) rfl rfl rfl dX4_readWord_112 rfl ?_
                  refine fV_top (b := 1) (by rw [w_I13]) ?_
                  refine fV_if_ne (tgt := 167) (pc' := 118) G dX4_readWord_115 (by decide) rfl (by omega) (fun c14 => ?_) (fun c14 => ?_)
                  · refine fV_vret G dX4_readWord_167 ?_
                    exact ⟨rfl, by unfold pWord; rw [if_pos ⟨hk1, by omega⟩, if_pos c4, if_pos c6, if_pos c8, hwe, if_neg (fun z => by have := (rdK_2 (T := T) (n := n) (e := tE T n (tE T n (tE T n (tE T n e0))))).mpr z; omega)]; exact rdI_e t_I13 rfl w_I13 o_I13, rfl⟩
                  · exact absurd c14 (by decide)
                · refine fV_iconst (pc' := 103) G dX4_readWord_102 rfl ?_
                  refine fV_goto (tgt := 107) G dX4_readWord_103 (by decide) ?_
                  obtain ⟨I13, eI13⟩ : ∃ J9 : fM, J9 = rdS I9 := ⟨_, rfl⟩
                  refine fV_callVf (I' := I13) (st' := [.int (i32 (rdV T n (tE T n (tE T n (tE T n (tE T n e0))))))]) (n := 1) (k := 214) (K := 4) (As := [.int (i32 1)]) (rest := []) (pc' := 110) G (by rw [eI13]; exact mX4_acc_y l Γ hN I9 P hn hT (by omega) t_I9 w_I9) kcX4_readWord_165 (by omega) rfl rfl rfl rfl (Nat.le_of_ble_eq_true rfl) (Nat.zero_le _) (Nat.zero_le _) dX4_readWord_107 rfl rfl ?_
                  have t_I13 : rdT I13 T n (tE T n (tE T n (tE T n (tE T n (tE T n e0))))) := by rw [eI13]; exact rdT_n t_I9
                  have w_I13 : I13 214 11 = 0 := by rw [eI13, rdS_11]; exact w_I9
                  have o_I13 : rdO I I13 := by rw [eI13]; exact rdO_tr o_I9 (rdO_s _)
                  have sb_I13 := tS_b (T := T) (n := n) (e := tE T n (tE T n (tE T n (tE T n (tE T n e0))))) (by omega)
                  have ez_I13 := tE_b (T := T) (n := n) (e := tE T n (tE T n (tE T n (tE T n (tE T n e0))))) (by omega)
                  have eb_I13 := And.intro ez_I13.1 ez_I13.2.1
                  clear ez_I13
                  have kb_I13 := rdK_b T n (tE T n (tE T n (tE T n (tE T n (tE T n e0)))))
                  have vb_I13 := rdV_b (T := T) (n := n) (e := tE T n (tE T n (tE T n (tE T n (tE T n e0))))) (by omega)
                  have nb_I13 := tNum_ge (T := T) (n := n) (e := tE T n (tE T n (tE T n (tE T n (tE T n e0))))) (by omega)
                  refine fV_pop (pc' := 111) G dX4_readWord_110 rfl rfl ?_
                  refine fV_aload_n (pc' := 112) G 6 dX4_readWord_111 rfl rfl rfl ?_
                  refine fV_get (K := 4) (v := .int (i32 (I13 214 11))) (pc' := 115) G kfX4_readWord_158 (by omega) rfl rfl rfl dX4_readWord_112 rfl ?_
                  refine fV_top (b := 0) (by rw [w_I13]) ?_
                  refine fV_if_ne (tgt := 167) (pc' := 118) G dX4_readWord_115 (by decide) rfl (by omega) (fun c14 => ?_) (fun c14 => ?_)
                  · exact absurd c14 (by decide)
                  · refine fV_aload_n (pc' := 119) G 6 dX4_readWord_118 rfl rfl rfl ?_
                    refine fV_iload_n (pc' := 120) G 4 dX4_readWord_119 rfl rfl rfl ?_
                    refine fV_iload_n (pc' := 121) G 3 dX4_readWord_120 rfl rfl rfl ?_
                    refine fV_iload (pc' := 123) G 2 dX4_readWord_121 rfl rfl ?_
                    refine fV_iload (pc' := 125) G 1 dX4_readWord_123 rfl rfl ?_
                    refine fV_iload (pc' := 127) G 0 dX4_readWord_125 rfl rfl ?_
                    have e5_I13 : I13 215 = I 215 := o_I13.1 215 (by decide)
                    obtain ⟨I15, eI15⟩ : ∃ J9 : fM, J9 = mMake I13 ((tE T n e0) - (tS T n e0)) (tNum T n (tE T n e0)) (tNum T n (tE T n (tE T n e0))) (tNum T n (tE T n (tE T n (tE T n e0)))) (tWay T n (tE T n (tE T n (tE T n (tE T n e0))))) := ⟨_, rfl⟩
                    refine fV_callVf (I' := I15) (st' := [.int (i32 (I13 215 0))]) (n := 5) (k := 214) (K := 4) (As := [.int (i32 ((tE T n e0) - (tS T n e0))), .int (i32 (tNum T n (tE T n e0))), .int (i32 (tNum T n (tE T n (tE T n e0)))), .int (i32 (tNum T n (tE T n (tE T n (tE T n e0))))), .int (i32 (tWay T n (tE T n (tE T n (tE T n (tE T n e0))))))]) (rest := []) (pc' := 130) G (by rw [eI15]; exact mX4_makeWord l Γ hN I13 P (by rw [e5_I13]; omega) ((tE T n e0) - (tS T n e0)) (tNum T n (tE T n e0)) (tNum T n (tE T n (tE T n e0))) (tNum T n (tE T n (tE T n (tE T n e0)))) (tWay T n (tE T n (tE T n (tE T n (tE T n e0)))))) kcX4_readWord_99 (by omega) rfl rfl rfl rfl (Nat.le_of_ble_eq_true rfl) (Nat.zero_le _) (Nat.zero_le _) dX4_readWord_127 rfl rfl ?_
                    refine fV_top (b := I 215 0) (by rw [e5_I13]) ?_
                    have hk3 := rdK_2 (T := T) (n := n) (e := tE T n (tE T n (tE T n (tE T n e0))))
                    have lw : 1 ≤ tE T n e0 - tS T n e0 := by have := (tE_b (T := T) he.2).2.2 (by omega); omega
                    have j218 : I15 218 = T := by rw [eI15]; unfold mMake; rw [fup_ne (by decide), fup_ne (by decide), fup_ne (by decide), fup_ne (by decide), fup_ne (by decide), fup_ne (by decide), fup_ne (by decide), fup_ne (by decide)]; exact t_I13.1
                    refine fV_istore (lv' := [(7, .int (i32 (I 215 0))), (6, .int (i32 (tWay T n (tE T n (tE T n (tE T n (tE T n e0))))))), (5, .int (i32 (tNum T n (tE T n (tE T n (tE T n e0)))))), (4, .int (i32 (tNum T n (tE T n (tE T n e0))))), (3, .int (i32 (tNum T n (tE T n e0)))), (2, .int (i32 ((tE T n e0) - (tS T n e0)))), (1, .int (i32 (tS T n e0))), (0, .ref (Γ.1 214))]) (pc' := 132) G dX4_readWord_130 (by decide) rfl rfl ?_
                    refine fV_iconst (pc' := 133) G dX4_readWord_132 rfl ?_
                    refine fV_istore (lv' := [(8, .int (i32 0)), (7, .int (i32 (I 215 0))), (6, .int (i32 (tWay T n (tE T n (tE T n (tE T n (tE T n e0))))))), (5, .int (i32 (tNum T n (tE T n (tE T n (tE T n e0)))))), (4, .int (i32 (tNum T n (tE T n (tE T n e0))))), (3, .int (i32 (tNum T n (tE T n e0)))), (2, .int (i32 ((tE T n e0) - (tS T n e0)))), (1, .int (i32 (tS T n e0))), (0, .ref (Γ.1 214))]) (pc' := 135) G dX4_readWord_133 (by decide) rfl rfl ?_
                    have lp : ∀ (z : Nat) (k : Int) (J : fM), 0 ≤ k ∧ k ≤ tE T n e0 - tS T n e0 → J = fcpy I15 218 (tS T n e0) 215 (13 + 19 * I 215 0 + 7) k → ((tE T n e0 - tS T n e0 - k).toNat) = z → fV p l e rmX4_readWord s m args below meth c (MQ below (fQ Γ N (fun v J Q => v = none ∧ rdI I T n (pWord T n e0) J ∧ Q = P)) args s 0 0 (fA Γ N)) (fA Γ N) Γ N 9 0 0 J P 135 [(0, .ref (Γ.1 214)), (1, .int (i32 (tS T n e0))), (2, .int (i32 (tE T n e0 - tS T n e0))), (7, .int (i32 (I 215 0))), (8, .int (i32 k))] [] := by
                      intro z
                      induction z using Nat.strongRecOn with
                      | _ z ih_lp =>
                        intro k J hk hJ hz_lp
                        refine fV_iload (pc' := 137) G 4 dX4_readWord_135 rfl rfl ?_
                        refine fV_iload_n (pc' := 138) G 2 dX4_readWord_137 rfl rfl rfl ?_
                        refine fV_icmp_ge (tgt := 167) (pc' := 141) G dX4_readWord_138 (by decide) rfl (by omega) (by omega) (fun c116 => ?_) (fun c116 => ?_)
                        · refine fV_vret G dX4_readWord_167 ?_
                          have hJk : k = tE T n e0 - tS T n e0 := by omega
                          have hJo : ∀ a : Nat, a ≠ 215 → J a = I13 a := fun a ha => by rw [hJ, fcpy_ne ha, eI15]; unfold mMake; rw [fup_ne ha, fup_ne ha, fup_ne ha, fup_ne ha, fup_ne ha, fup_ne ha, fup_ne ha, fup_ne ha]
                          have e218 : I13 218 = T := t_I13.1
                          have hJ5 : J 215 = rWord T (I 215) (tS T n e0) (tE T n e0 - tS T n e0) (tNum T n (tE T n e0)) (tNum T n (tE T n (tE T n e0))) (tNum T n (tE T n (tE T n (tE T n e0)))) (tWay T n (tE T n (tE T n (tE T n (tE T n e0))))) := by rw [hJ, hJk, eI15, ← e5_I13]; have z9 := rWord_eq (M := I13) (a := tS T n e0) (l := tE T n e0 - tS T n e0) (f := tNum T n (tE T n e0)) (sp := tNum T n (tE T n (tE T n e0))) (h := tNum T n (tE T n (tE T n (tE T n e0)))) (w := tWay T n (tE T n (tE T n (tE T n (tE T n e0))))) (by rw [e5_I13]; omega); rw [e218] at z9; exact z9
                          have hpc : tE T n (tE T n (tE T n (tE T n (tE T n e0)))) ≤ n := by omega
                          exact ⟨rfl, by unfold pWord; rw [if_pos ⟨hk1, by omega⟩, if_pos c4, if_pos c6, if_pos c8, hwe, if_pos (hk3.mp (by omega))]; exact ⟨by rw [hJo 214 (by decide)]; exact w_I13, rdT_o t_I13 (hJo 218 (by decide)) (fun b _ _ => by rw [hJo 214 (by decide)]), hJ5, fun a a1 a2 => by rw [hJo a a2]; exact o_I13.1 a a1, fun b hb => by rw [hJo 214 (by decide)]; exact o_I13.2 b hb, by omega, c4, c6, c8, hwb, by omega, hpc⟩, rfl⟩
                        · refine fV_aload_n (pc' := 142) G 0 dX4_readWord_141 rfl rfl rfl ?_
                          refine fV_iload (pc' := 144) G 3 dX4_readWord_142 rfl rfl ?_
                          refine fV_bipush (n := 7) (pc' := 146) G dX4_readWord_144 rfl rfl ?_
                          refine fV_iload (pc' := 148) G 4 dX4_readWord_146 rfl rfl ?_
                          refine fV_iadd (pc' := 149) G dX4_readWord_148 rfl ?_
                          refine fV_aload_n (pc' := 150) G 0 dX4_readWord_149 rfl rfl rfl ?_
                          refine fV_get (K := 4) (v := .ref (Γ.1 218)) (pc' := 153) G kfX4_readWord_19 (by omega) rfl rfl rfl dX4_readWord_150 rfl ?_
                          refine fV_iload_n (pc' := 154) G 1 dX4_readWord_153 rfl rfl rfl ?_
                          refine fV_iload (pc' := 156) G 4 dX4_readWord_154 rfl rfl ?_
                          refine fV_iadd (pc' := 157) G dX4_readWord_156 rfl ?_
                          refine fV_iald (K := 7) (n := 160) (pc' := 158) G (by omega) rfl (fun _ _ => rfl) (by decide) (by omega) dX4_readWord_157 rfl ?_
                          refine fV_top (b := T (tS T n e0 + k)) (by rw [hJ, fcpy_k (by decide), j218]) ?_
                          obtain ⟨I117, eI117⟩ : ∃ J9 : fM, J9 = fup J 215 (13 + 19 * (I 215 0) + (7 + k)) (T (tS T n e0 + k)) := ⟨_, rfl⟩
                          refine fV_callVf (I' := I117) (st' := []) (n := 3) (k := 214) (K := 4) (As := [.int (i32 (I 215 0)), .int (i32 (7 + k)), .int (i32 (T (tS T n e0 + k)))]) (rest := []) (pc' := 161) G (by rw [eI117]; exact mX4_set l Γ hN J P (I 215 0) (by omega) (7 + k) (by omega) (T (tS T n e0 + k))) kcX4_readWord_81 (by omega) rfl rfl rfl rfl (Nat.le_of_ble_eq_true rfl) (Nat.zero_le _) (Nat.zero_le _) dX4_readWord_158 rfl rfl ?_
                          refine fV_iinc (lv' := [(8, .int (i32 (k + 1))), (0, .ref (Γ.1 214)), (1, .int (i32 (tS T n e0))), (2, .int (i32 (tE T n e0 - tS T n e0))), (7, .int (i32 (I 215 0)))]) (pc' := 164) G 4 dX4_readWord_161 rfl (by decide) rfl rfl ?_
                          refine fV_goto (tgt := 135) G dX4_readWord_164 (by decide) ?_
                          refine fV_lv (lv' := [(0, .ref (Γ.1 214)), (1, .int (i32 (tS T n e0))), (2, .int (i32 (tE T n e0 - tS T n e0))), (7, .int (i32 (I 215 0))), (8, .int (i32 (k + 1)))]) [1, 2, 3, 4, 0] rfl ?_
                          exact ih_lp _ (by omega) (k + 1) I117 (by omega) (by rw [eI117, hJ, ← fcpy_s (n := k) (Or.inl (by decide)) (by omega), fcpy_k (by decide), j218, show 13 + 19 * I 215 0 + (7 + k) = 13 + 19 * I 215 0 + 7 + k by omega]) rfl
                    refine fV_lv (lv' := [(0, .ref (Γ.1 214)), (1, .int (i32 (tS T n e0))), (2, .int (i32 ((tE T n e0) - (tS T n e0)))), (7, .int (i32 (I 215 0))), (8, .int (i32 0))]) [8, 7, 6, 1, 0] rfl ?_
                    exact lp _ 0 I15 (by omega) ((fcpy_0 _ _ _ _ _).symm) rfl
              · have hwe := tWe_1 (T := T) (n := n) (e := tE T n (tE T n (tE T n (tE T n e0)))) (by omega)
                refine fV_aload_n (pc' := 88) G 6 dX4_readWord_87 rfl rfl rfl ?_
                refine fV_iconst (pc' := 89) G dX4_readWord_88 rfl ?_
                obtain ⟨I12, eI12⟩ : ∃ J9 : fM, J9 = rdS I9 := ⟨_, rfl⟩
                refine fV_callVf (I' := I12) (st' := [.int (i32 (rdV T n (tE T n (tE T n (tE T n (tE T n e0))))))]) (n := 1) (k := 214) (K := 4) (As := [.int (i32 1)]) (rest := []) (pc' := 92) G (by rw [eI12]; exact mX4_acc_y l Γ hN I9 P hn hT (by omega) t_I9 w_I9) kcX4_readWord_165 (by omega) rfl rfl rfl rfl (Nat.le_of_ble_eq_true rfl) (Nat.zero_le _) (Nat.zero_le _) dX4_readWord_89 rfl rfl ?_
                have t_I12 : rdT I12 T n (tE T n (tE T n (tE T n (tE T n (tE T n e0))))) := by rw [eI12]; exact rdT_n t_I9
                have w_I12 : I12 214 11 = 0 := by rw [eI12, rdS_11]; exact w_I9
                have o_I12 : rdO I I12 := by rw [eI12]; exact rdO_tr o_I9 (rdO_s _)
                have sb_I12 := tS_b (T := T) (n := n) (e := tE T n (tE T n (tE T n (tE T n (tE T n e0))))) (by omega)
                have ez_I12 := tE_b (T := T) (n := n) (e := tE T n (tE T n (tE T n (tE T n (tE T n e0))))) (by omega)
                have eb_I12 := And.intro ez_I12.1 ez_I12.2.1
                clear ez_I12
                have kb_I12 := rdK_b T n (tE T n (tE T n (tE T n (tE T n (tE T n e0)))))
                have vb_I12 := rdV_b (T := T) (n := n) (e := tE T n (tE T n (tE T n (tE T n (tE T n e0))))) (by omega)
                have nb_I12 := tNum_ge (T := T) (n := n) (e := tE T n (tE T n (tE T n (tE T n (tE T n e0))))) (by omega)
                refine fV_pop (pc' := 93) G dX4_readWord_92 rfl rfl ?_
                refine fV_aload_n (pc' := 94) G 6 dX4_readWord_93 rfl rfl rfl ?_
                refine fV_aload_n (pc' := 95) G 6 dX4_readWord_94 rfl rfl rfl ?_
                refine fV_get (K := 4) (v := .int (i32 (I12 214 9))) (pc' := 98) G kfX4_readWord_145 (by omega) rfl rfl rfl dX4_readWord_95 rfl ?_
                refine fV_top (b := rdK T n (tE T n (tE T n (tE T n (tE T n (tE T n e0)))))) (by rw [t_I12.2.2.2.2.1]) ?_
                refine fV_iconst (pc' := 99) G dX4_readWord_98 rfl ?_
                refine fV_icmp_ne (tgt := 106) (pc' := 102) G dX4_readWord_99 (by decide) rfl (by omega) (by decide) (fun c13 => ?_) (fun c13 => ?_)
                · refine fV_iconst (pc' := 107) G dX4_readWord_106 rfl ?_
                  obtain ⟨I14, eI14⟩ : ∃ J9 : fM, J9 = fup I12 214 11 1 := ⟨_, rfl⟩
                  refine fV_callVf (I' := I14) (st' := [.int (i32 (rdV T n (tE T n (tE T n (tE T n (tE T n (tE T n e0)))))))]) (n := 1) (k := 214) (K := 4) (As := [.int (i32 0)]) (rest := []) (pc' := 110) G (by rw [eI14]; exact mX4_acc_n l Γ hN I12 P hn hT (by omega) t_I12 w_I12) kcX4_readWord_165 (by omega) rfl rfl rfl rfl (Nat.le_of_ble_eq_true rfl) (Nat.zero_le _) (Nat.zero_le _) dX4_readWord_107 rfl rfl ?_
                  have t_I14 : rdT I14 T n (tE T n (tE T n (tE T n (tE T n (tE T n e0))))) := by rw [eI14]; exact rdT_w t_I12
                  have w_I14 : I14 214 11 = 1 := by rw [eI14, fup_s]
                  have o_I14 : rdO I I14 := by rw [eI14]; exact rdO_tr o_I12 (rdO_11 _ _)
                  refine fV_pop (pc' := 111) G dX4_readWord_110 rfl rfl ?_
                  refine fV_aload_n (pc' := 112) G 6 dX4_readWord_111 rfl rfl rfl ?_
                  refine fV_get (K := 4) (v := .int (i32 (I14 214 11))) (pc' := 115) G kfX4_readWord_158 (by omega) rfl rfl rfl dX4_readWord_112 rfl ?_
                  refine fV_top (b := 1) (by rw [w_I14]) ?_
                  refine fV_if_ne (tgt := 167) (pc' := 118) G dX4_readWord_115 (by decide) rfl (by omega) (fun c15 => ?_) (fun c15 => ?_)
                  · refine fV_vret G dX4_readWord_167 ?_
                    exact ⟨rfl, by unfold pWord; rw [if_pos ⟨hk1, by omega⟩, if_pos c4, if_pos c6, if_pos c8, hwe, if_neg (fun z => by have := (rdK_2 (T := T) (n := n) (e := tE T n (tE T n (tE T n (tE T n (tE T n e0)))))).mpr z; omega)]; exact rdI_e t_I14 rfl w_I14 o_I14, rfl⟩
                  · exact absurd c15 (by decide)
                · refine fV_iconst (pc' := 103) G dX4_readWord_102 rfl ?_
                  refine fV_goto (tgt := 107) G dX4_readWord_103 (by decide) ?_
                  obtain ⟨I14, eI14⟩ : ∃ J9 : fM, J9 = rdS I12 := ⟨_, rfl⟩
                  refine fV_callVf (I' := I14) (st' := [.int (i32 (rdV T n (tE T n (tE T n (tE T n (tE T n (tE T n e0)))))))]) (n := 1) (k := 214) (K := 4) (As := [.int (i32 1)]) (rest := []) (pc' := 110) G (by rw [eI14]; exact mX4_acc_y l Γ hN I12 P hn hT (by omega) t_I12 w_I12) kcX4_readWord_165 (by omega) rfl rfl rfl rfl (Nat.le_of_ble_eq_true rfl) (Nat.zero_le _) (Nat.zero_le _) dX4_readWord_107 rfl rfl ?_
                  have t_I14 : rdT I14 T n (tE T n (tE T n (tE T n (tE T n (tE T n (tE T n e0)))))) := by rw [eI14]; exact rdT_n t_I12
                  have w_I14 : I14 214 11 = 0 := by rw [eI14, rdS_11]; exact w_I12
                  have o_I14 : rdO I I14 := by rw [eI14]; exact rdO_tr o_I12 (rdO_s _)
                  have sb_I14 := tS_b (T := T) (n := n) (e := tE T n (tE T n (tE T n (tE T n (tE T n (tE T n e0)))))) (by omega)
                  have ez_I14 := tE_b (T := T) (n := n) (e := tE T n (tE T n (tE T n (tE T n (tE T n (tE T n e0)))))) (by omega)
                  have eb_I14 := And.intro ez_I14.1 ez_I14.2.1
                  clear ez_I14
                  have kb_I14 := rdK_b T n (tE T n (tE T n (tE T n (tE T n (tE T n (tE T n e0))))))
                  have vb_I14 := rdV_b (T := T) (n := n) (e := tE T n (tE T n (tE T n (tE T n (tE T n (tE T n e0)))))) (by omega)
                  have nb_I14 := tNum_ge (T := T) (n := n) (e := tE T n (tE T n (tE T n (tE T n (tE T n (tE T n e0)))))) (by omega)
                  refine fV_pop (pc' := 111) G dX4_readWord_110 rfl rfl ?_
                  refine fV_aload_n (pc' := 112) G 6 dX4_readWord_111 rfl rfl rfl ?_
                  refine fV_get (K := 4) (v := .int (i32 (I14 214 11))) (pc' := 115) G kfX4_readWord_158 (by omega) rfl rfl rfl dX4_readWord_112 rfl ?_
                  refine fV_top (b := 0) (by rw [w_I14]) ?_
                  refine fV_if_ne (tgt := 167) (pc' := 118) G dX4_readWord_115 (by decide) rfl (by omega) (fun c15 => ?_) (fun c15 => ?_)
                  · exact absurd c15 (by decide)
                  · refine fV_aload_n (pc' := 119) G 6 dX4_readWord_118 rfl rfl rfl ?_
                    refine fV_iload_n (pc' := 120) G 4 dX4_readWord_119 rfl rfl rfl ?_
                    refine fV_iload_n (pc' := 121) G 3 dX4_readWord_120 rfl rfl rfl ?_
                    refine fV_iload (pc' := 123) G 2 dX4_readWord_121 rfl rfl ?_
                    refine fV_iload (pc' := 125) G 1 dX4_readWord_123 rfl rfl ?_
                    refine fV_iload (pc' := 127) G 0 dX4_readWord_125 rfl rfl ?_
                    have e5_I14 : I14 215 = I 215 := o_I14.1 215 (by decide)
                    obtain ⟨I16, eI16⟩ : ∃ J9 : fM, J9 = mMake I14 ((tE T n e0) - (tS T n e0)) (tNum T n (tE T n e0)) (tNum T n (tE T n (tE T n e0))) (tNum T n (tE T n (tE T n (tE T n e0)))) (tWay T n (tE T n (tE T n (tE T n (tE T n e0))))) := ⟨_, rfl⟩
                    refine fV_callVf (I' := I16) (st' := [.int (i32 (I14 215 0))]) (n := 5) (k := 214) (K := 4) (As := [.int (i32 ((tE T n e0) - (tS T n e0))), .int (i32 (tNum T n (tE T n e0))), .int (i32 (tNum T n (tE T n (tE T n e0)))), .int (i32 (tNum T n (tE T n (tE T n (tE T n e0))))), .int (i32 (tWay T n (tE T n (tE T n (tE T n (tE T n e0))))))]) (rest := []) (pc' := 130) G (by rw [eI16]; exact mX4_makeWord l Γ hN I14 P (by rw [e5_I14]; omega) ((tE T n e0) - (tS T n e0)) (tNum T n (tE T n e0)) (tNum T n (tE T n (tE T n e0))) (tNum T n (tE T n (tE T n (tE T n e0)))) (tWay T n (tE T n (tE T n (tE T n (tE T n e0)))))) kcX4_readWord_99 (by omega) rfl rfl rfl rfl (Nat.le_of_ble_eq_true rfl) (Nat.zero_le _) (Nat.zero_le _) dX4_readWord_127 rfl rfl ?_
                    refine fV_top (b := I 215 0) (by rw [e5_I14]) ?_
                    have hk3 := rdK_2 (T := T) (n := n) (e := tE T n (tE T n (tE T n (tE T n (tE T n e0)))))
                    have lw : 1 ≤ tE T n e0 - tS T n e0 := by have := (tE_b (T := T) he.2).2.2 (by omega); omega
                    have j218 : I16 218 = T := by rw [eI16]; unfold mMake; rw [fup_ne (by decide), fup_ne (by decide), fup_ne (by decide), fup_ne (by decide), fup_ne (by decide), fup_ne (by decide), fup_ne (by decide), fup_ne (by decide)]; exact t_I14.1
                    refine fV_istore (lv' := [(7, .int (i32 (I 215 0))), (6, .int (i32 (tWay T n (tE T n (tE T n (tE T n (tE T n e0))))))), (5, .int (i32 (tNum T n (tE T n (tE T n (tE T n e0)))))), (4, .int (i32 (tNum T n (tE T n (tE T n e0))))), (3, .int (i32 (tNum T n (tE T n e0)))), (2, .int (i32 ((tE T n e0) - (tS T n e0)))), (1, .int (i32 (tS T n e0))), (0, .ref (Γ.1 214))]) (pc' := 132) G dX4_readWord_130 (by decide) rfl rfl ?_
                    refine fV_iconst (pc' := 133) G dX4_readWord_132 rfl ?_
                    refine fV_istore (lv' := [(8, .int (i32 0)), (7, .int (i32 (I 215 0))), (6, .int (i32 (tWay T n (tE T n (tE T n (tE T n (tE T n e0))))))), (5, .int (i32 (tNum T n (tE T n (tE T n (tE T n e0)))))), (4, .int (i32 (tNum T n (tE T n (tE T n e0))))), (3, .int (i32 (tNum T n (tE T n e0)))), (2, .int (i32 ((tE T n e0) - (tS T n e0)))), (1, .int (i32 (tS T n e0))), (0, .ref (Γ.1 214))]) (pc' := 135) G dX4_readWord_133 (by decide) rfl rfl ?_
                    have lp : ∀ (z : Nat) (k : Int) (J : fM), 0 ≤ k ∧ k ≤ tE T n e0 - tS T n e0 → J = fcpy I16 218 (tS T n e0) 215 (13 + 19 * I 215 0 + 7) k → ((tE T n e0 - tS T n e0 - k).toNat) = z → fV p l e rmX4_readWord s m args below meth c (MQ below (fQ Γ N (fun v J Q => v = none ∧ rdI I T n (pWord T n e0) J ∧ Q = P)) args s 0 0 (fA Γ N)) (fA Γ N) Γ N 9 0 0 J P 135 [(0, .ref (Γ.1 214)), (1, .int (i32 (tS T n e0))), (2, .int (i32 (tE T n e0 - tS T n e0))), (7, .int (i32 (I 215 0))), (8, .int (i32 k))] [] := by
                      intro z
                      induction z using Nat.strongRecOn with
                      | _ z ih_lp =>
                        intro k J hk hJ hz_lp
                        refine fV_iload (pc' := 137) G 4 dX4_readWord_135 rfl rfl ?_
                        refine fV_iload_n (pc' := 138) G 2 dX4_readWord_137 rfl rfl rfl ?_
                        refine fV_icmp_ge (tgt := 167) (pc' := 141) G dX4_readWord_138 (by decide) rfl (by omega) (by omega) (fun c117 => ?_) (fun c117 => ?_)
                        · refine fV_vret G dX4_readWord_167 ?_
                          have hJk : k = tE T n e0 - tS T n e0 := by omega
                          have hJo : ∀ a : Nat, a ≠ 215 → J a = I14 a := fun a ha => by rw [hJ, fcpy_ne ha, eI16]; unfold mMake; rw [fup_ne ha, fup_ne ha, fup_ne ha, fup_ne ha, fup_ne ha, fup_ne ha, fup_ne ha, fup_ne ha]
                          have e218 : I14 218 = T := t_I14.1
                          have hJ5 : J 215 = rWord T (I 215) (tS T n e0) (tE T n e0 - tS T n e0) (tNum T n (tE T n e0)) (tNum T n (tE T n (tE T n e0))) (tNum T n (tE T n (tE T n (tE T n e0)))) (tWay T n (tE T n (tE T n (tE T n (tE T n e0))))) := by rw [hJ, hJk, eI16, ← e5_I14]; have z9 := rWord_eq (M := I14) (a := tS T n e0) (l := tE T n e0 - tS T n e0) (f := tNum T n (tE T n e0)) (sp := tNum T n (tE T n (tE T n e0))) (h := tNum T n (tE T n (tE T n (tE T n e0)))) (w := tWay T n (tE T n (tE T n (tE T n (tE T n e0))))) (by rw [e5_I14]; omega); rw [e218] at z9; exact z9
                          have hpc : tE T n (tE T n (tE T n (tE T n (tE T n (tE T n e0))))) ≤ n := by omega
                          exact ⟨rfl, by unfold pWord; rw [if_pos ⟨hk1, by omega⟩, if_pos c4, if_pos c6, if_pos c8, hwe, if_pos (hk3.mp (by omega))]; exact ⟨by rw [hJo 214 (by decide)]; exact w_I14, rdT_o t_I14 (hJo 218 (by decide)) (fun b _ _ => by rw [hJo 214 (by decide)]), hJ5, fun a a1 a2 => by rw [hJo a a2]; exact o_I14.1 a a1, fun b hb => by rw [hJo 214 (by decide)]; exact o_I14.2 b hb, by omega, c4, c6, c8, hwb, by omega, hpc⟩, rfl⟩
                        · refine fV_aload_n (pc' := 142) G 0 dX4_readWord_141 rfl rfl rfl ?_
                          refine fV_iload (pc' := 144) G 3 dX4_readWord_142 rfl rfl ?_
                          refine fV_bipush (n := 7) (pc' := 146) G dX4_readWord_144 rfl rfl ?_
                          refine fV_iload (pc' := 148) G 4 dX4_readWord_146 rfl rfl ?_
                          refine fV_iadd (pc' := 149) G dX4_readWord_148 rfl ?_
                          refine fV_aload_n (pc' := 150) G 0 dX4_readWord_149 rfl rfl rfl ?_
                          refine fV_get (K := 4) (v := .ref (Γ.1 218)) (pc' := 153) G kfX4_readWord_19 (by omega) rfl rfl rfl dX4_readWord_150 rfl ?_
                          refine fV_iload_n (pc' := 154) G 1 dX4_readWord_153 rfl rfl rfl ?_
                          refine fV_iload (pc' := 156) G 4 dX4_readWord_154 rfl rfl ?_
                          refine fV_iadd (pc' := 157) G dX4_readWord_156 rfl ?_
                          refine fV_iald (K := 7) (n := 160) (pc' := 158) G (by omega) rfl (fun _ _ => rfl) (by decide) (by omega) dX4_readWord_157 rfl ?_
                          refine fV_top (b := T (tS T n e0 + k)) (by rw [hJ, fcpy_k (by decide), j218]) ?_
                          obtain ⟨I118, eI118⟩ : ∃ J9 : fM, J9 = fup J 215 (13 + 19 * (I 215 0) + (7 + k)) (T (tS T n e0 + k)) := ⟨_, rfl⟩
                          refine fV_callVf (I' := I118) (st' := []) (n := 3) (k := 214) (K := 4) (As := [.int (i32 (I 215 0)), .int (i32 (7 + k)), .int (i32 (T (tS T n e0 + k)))]) (rest := []) (pc' := 161) G (by rw [eI118]; exact mX4_set l Γ hN J P (I 215 0) (by omega) (7 + k) (by omega) (T (tS T n e0 + k))) kcX4_readWord_81 (by omega) rfl rfl rfl rfl (Nat.le_of_ble_eq_true rfl) (Nat.zero_le _) (Nat.zero_le _) dX4_readWord_158 rfl rfl ?_
                          refine fV_iinc (lv' := [(8, .int (i32 (k + 1))), (0, .ref (Γ.1 214)), (1, .int (i32 (tS T n e0))), (2, .int (i32 (tE T n e0 - tS T n e0))), (7, .int (i32 (I 215 0)))]) (pc' := 164) G 4 dX4_readWord_161 rfl (by decide) rfl rfl ?_
                          refine fV_goto (tgt := 135) G dX4_readWord_164 (by decide) ?_
                          refine fV_lv (lv' := [(0, .ref (Γ.1 214)), (1, .int (i32 (tS T n e0))), (2, .int (i32 (tE T n e0 - tS T n e0))), (7, .int (i32 (I 215 0))), (8, .int (i32 (k + 1)))]) [1, 2, 3, 4, 0] rfl ?_
                          exact ih_lp _ (by omega) (k + 1) I118 (by omega) (by rw [eI118, hJ, ← fcpy_s (n := k) (Or.inl (by decide)) (by omega), fcpy_k (by decide), j218, show 13 + 19 * I 215 0 + (7 + k) = 13 + 19 * I 215 0 + 7 + k by omega]) rfl
                    refine fV_lv (lv' := [(0, .ref (Γ.1 214)), (1, .int (i32 (tS T n e0))), (2, .int (i32 ((tE T n e0) - (tS T n e0)))), (7, .int (i32 (I 215 0))), (8, .int (i32 0))]) [8, 7, 6, 1, 0] rfl ?_
                    exact lp _ 0 I16 (by omega) ((fcpy_0 _ _ _ _ _).symm) rfl
            · exact absurd c10 (by decide)
          · obtain ⟨I9, eI9⟩ : ∃ J9 : fM, J9 = fup I7 214 11 1 := ⟨_, rfl⟩
            refine fV_callVf (I' := I9) (st' := [.int (i32 (rdV T n (tE T n (tE T n (tE T n e0)))))]) (n := 2) (k := 214) (K := 4) (As := [.int (i32 0), .int (i32 60)]) (rest := []) (pc' := 63) G (by rw [eI9]; exact mX4_num_n l Γ hN I7 P 0 60 (by decide) (by decide) hn hT (by omega) t_I7 w_I7 c8) kcX4_readWord_177 (by omega) rfl rfl rfl rfl (Nat.le_of_ble_eq_true rfl) (Nat.zero_le _) (Nat.zero_le _) dX4_readWord_60 rfl rfl ?_
            have t_I9 : rdT I9 T n (tE T n (tE T n (tE T n e0))) := by rw [eI9]; exact rdT_w t_I7
            have w_I9 : I9 214 11 = 1 := by rw [eI9, fup_s]
            have o_I9 : rdO I I9 := by rw [eI9]; exact rdO_tr o_I7 (rdO_11 _ _)
            refine fV_istore (lv' := [(5, .int (i32 (rdV T n (tE T n (tE T n (tE T n e0)))))), (4, .int (i32 (tNum T n (tE T n (tE T n e0))))), (3, .int (i32 (tNum T n (tE T n e0)))), (2, .int (i32 ((tE T n e0) - (tS T n e0)))), (1, .int (i32 (tS T n e0))), (0, .ref (Γ.1 214))]) (pc' := 65) G dX4_readWord_63 (by decide) rfl rfl ?_
            refine fV_aload_n (pc' := 66) G 5 dX4_readWord_65 rfl rfl rfl ?_
            refine fV_get (K := 4) (v := .int (i32 (I9 214 11))) (pc' := 69) G kfX4_readWord_158 (by omega) rfl rfl rfl dX4_readWord_66 rfl ?_
            refine fV_top (b := 1) (by rw [w_I9]) ?_
            refine fV_if_eq (tgt := 76) (pc' := 72) G dX4_readWord_69 (by decide) rfl (by omega) (fun c10 => ?_) (fun c10 => ?_)
            · exact absurd c10 (by decide)
            · refine fV_iconst (pc' := 73) G dX4_readWord_72 rfl ?_
              refine fV_goto (tgt := 80) G dX4_readWord_73 (by decide) ?_
              refine fV_istore (lv' := [(6, .int (i32 0)), (5, .int (i32 (rdV T n (tE T n (tE T n (tE T n e0)))))), (4, .int (i32 (tNum T n (tE T n (tE T n e0))))), (3, .int (i32 (tNum T n (tE T n e0)))), (2, .int (i32 ((tE T n e0) - (tS T n e0)))), (1, .int (i32 (tS T n e0))), (0, .ref (Γ.1 214))]) (pc' := 82) G dX4_readWord_80 (by decide) rfl rfl ?_
              refine fV_iload (pc' := 84) G 0 dX4_readWord_82 rfl rfl ?_
              refine fV_if_le (tgt := 93) (pc' := 87) G dX4_readWord_84 (by decide) rfl (by omega) (fun c11 => ?_) (fun c11 => ?_)
              · refine fV_aload_n (pc' := 94) G 6 dX4_readWord_93 rfl rfl rfl ?_
                refine fV_aload_n (pc' := 95) G 6 dX4_readWord_94 rfl rfl rfl ?_
                refine fV_get (K := 4) (v := .int (i32 (I9 214 9))) (pc' := 98) G kfX4_readWord_145 (by omega) rfl rfl rfl dX4_readWord_95 rfl ?_
                refine fV_top (b := rdK T n (tE T n (tE T n (tE T n e0)))) (by rw [t_I9.2.2.2.2.1]) ?_
                refine fV_iconst (pc' := 99) G dX4_readWord_98 rfl ?_
                refine fV_icmp_ne (tgt := 106) (pc' := 102) G dX4_readWord_99 (by decide) rfl (by omega) (by decide) (fun c12 => ?_) (fun c12 => ?_)
                · refine fV_iconst (pc' := 107) G dX4_readWord_106 rfl ?_
                  refine fV_callVf (st' := [.int (i32 (rdV T n (tE T n (tE T n (tE T n e0)))))]) (n := 1) (k := 214) (K := 4) (As := [.int (i32 0)]) (rest := []) (pc' := 110) G (mX4_acc_w l Γ hN I9 P 0 (by omega) hn hT (by omega) t_I9 w_I9) kcX4_readWord_165 (by omega) rfl rfl rfl rfl (Nat.le_of_ble_eq_true rfl) (Nat.zero_le _) (Nat.zero_le _) dX4_readWord_107 rfl rfl ?_
                  refine fV_pop (pc' := 111) G dX4_readWord_110 rfl rfl ?_
                  refine fV_aload_n (pc' := 112) G 6 dX4_readWord_111 rfl rfl rfl ?_
                  refine fV_get (K := 4) (v := .int (i32 (I9 214 11))) (pc' := 115) G kfX4_readWord_158 (by omega) rfl rfl rfl dX4_readWord_112 rfl ?_
                  refine fV_top (b := 1) (by rw [w_I9]) ?_
                  refine fV_if_ne (tgt := 167) (pc' := 118) G dX4_readWord_115 (by decide) rfl (by omega) (fun c13 => ?_) (fun c13 => ?_)
                  · refine fV_vret G dX4_readWord_167 ?_
                    exact ⟨rfl, by unfold pWord; rw [if_pos ⟨hk1, by omega⟩, if_pos c4, if_pos c6, if_neg c8]; exact rdI_e t_I9 rfl w_I9 o_I9, rfl⟩
                  · exact absurd c13 (by decide)
                · refine fV_iconst (pc' := 103) G dX4_readWord_102 rfl ?_
                  refine fV_goto (tgt := 107) G dX4_readWord_103 (by decide) ?_
                  refine fV_callVf (st' := [.int (i32 (rdV T n (tE T n (tE T n (tE T n e0)))))]) (n := 1) (k := 214) (K := 4) (As := [.int (i32 1)]) (rest := []) (pc' := 110) G (mX4_acc_w l Γ hN I9 P 1 (by omega) hn hT (by omega) t_I9 w_I9) kcX4_readWord_165 (by omega) rfl rfl rfl rfl (Nat.le_of_ble_eq_true rfl) (Nat.zero_le _) (Nat.zero_le _) dX4_readWord_107 rfl rfl ?_
                  refine fV_pop (pc' := 111) G dX4_readWord_110 rfl rfl ?_
                  refine fV_aload_n (pc' := 112) G 6 dX4_readWord_111 rfl rfl rfl ?_
                  refine fV_get (K := 4) (v := .int (i32 (I9 214 11))) (pc' := 115) G kfX4_readWord_158 (by omega) rfl rfl rfl dX4_readWord_112 rfl ?_
                  refine fV_top (b := 1) (by rw [w_I9]) ?_
                  refine fV_if_ne (tgt := 167) (pc' := 118) G dX4_readWord_115 (by decide) rfl (by omega) (fun c13 => ?_) (fun c13 => ?_)
                  · refine fV_vret G dX4_readWord_167 ?_
                    exact ⟨rfl, by unfold pWord; rw [if_pos ⟨hk1, by omega⟩, if_pos c4, if_pos c6, if_neg c8]; exact rdI_e t_I9 rfl w_I9 o_I9, rfl⟩
                  · exact absurd c13 (by decide)
              · exact absurd c11 (by decide)
        · obtain ⟨I7, eI7⟩ : ∃ J9 : fM, J9 = fup I5 214 11 1 := ⟨_, rfl⟩
          refine fV_callVf (I' := I7) (st' := [.int (i32 (rdV T n (tE T n (tE T n e0))))]) (n := 2) (k := 214) (K := 4) (As := [.int (i32 1), .int (i32 60)]) (rest := []) (pc' := 54) G (by rw [eI7]; exact mX4_num_n l Γ hN I5 P 1 60 (by decide) (by decide) hn hT (by omega) t_I5 w_I5 c6) kcX4_readWord_177 (by omega) rfl rfl rfl rfl (Nat.le_of_ble_eq_true rfl) (Nat.zero_le _) (Nat.zero_le _) dX4_readWord_51 rfl rfl ?_
          have t_I7 : rdT I7 T n (tE T n (tE T n e0)) := by rw [eI7]; exact rdT_w t_I5
          have w_I7 : I7 214 11 = 1 := by rw [eI7, fup_s]
          have o_I7 : rdO I I7 := by rw [eI7]; exact rdO_tr o_I5 (rdO_11 _ _)
          refine fV_istore (lv' := [(4, .int (i32 (rdV T n (tE T n (tE T n e0))))), (3, .int (i32 (tNum T n (tE T n e0)))), (2, .int (i32 ((tE T n e0) - (tS T n e0)))), (1, .int (i32 (tS T n e0))), (0, .ref (Γ.1 214))]) (pc' := 56) G dX4_readWord_54 (by decide) rfl rfl ?_
          refine fV_aload_n (pc' := 57) G 4 dX4_readWord_56 rfl rfl rfl ?_
          refine fV_iconst (pc' := 58) G dX4_readWord_57 rfl ?_
          refine fV_bipush (n := 60) (pc' := 60) G dX4_readWord_58 rfl rfl ?_
          refine fV_callVf (st' := [.int (i32 (rdV T n (tE T n (tE T n e0))))]) (n := 2) (k := 214) (K := 4) (As := [.int (i32 0), .int (i32 60)]) (rest := []) (pc' := 63) G (mX4_num_w l Γ hN I7 P 0 60 (by decide) (by decide) hn hT (by omega) t_I7 w_I7) kcX4_readWord_177 (by omega) rfl rfl rfl rfl (Nat.le_of_ble_eq_true rfl) (Nat.zero_le _) (Nat.zero_le _) dX4_readWord_60 rfl rfl ?_
          refine fV_istore (lv' := [(5, .int (i32 (rdV T n (tE T n (tE T n e0))))), (4, .int (i32 (rdV T n (tE T n (tE T n e0))))), (3, .int (i32 (tNum T n (tE T n e0)))), (2, .int (i32 ((tE T n e0) - (tS T n e0)))), (1, .int (i32 (tS T n e0))), (0, .ref (Γ.1 214))]) (pc' := 65) G dX4_readWord_63 (by decide) rfl rfl ?_
          refine fV_aload_n (pc' := 66) G 5 dX4_readWord_65 rfl rfl rfl ?_
          refine fV_get (K := 4) (v := .int (i32 (I7 214 11))) (pc' := 69) G kfX4_readWord_158 (by omega) rfl rfl rfl dX4_readWord_66 rfl ?_
          refine fV_top (b := 1) (by rw [w_I7]) ?_
          refine fV_if_eq (tgt := 76) (pc' := 72) G dX4_readWord_69 (by decide) rfl (by omega) (fun c8 => ?_) (fun c8 => ?_)
          · exact absurd c8 (by decide)
          · refine fV_iconst (pc' := 73) G dX4_readWord_72 rfl ?_
            refine fV_goto (tgt := 80) G dX4_readWord_73 (by decide) ?_
            refine fV_istore (lv' := [(6, .int (i32 0)), (5, .int (i32 (rdV T n (tE T n (tE T n e0))))), (4, .int (i32 (rdV T n (tE T n (tE T n e0))))), (3, .int (i32 (tNum T n (tE T n e0)))), (2, .int (i32 ((tE T n e0) - (tS T n e0)))), (1, .int (i32 (tS T n e0))), (0, .ref (Γ.1 214))]) (pc' := 82) G dX4_readWord_80 (by decide) rfl rfl ?_
            refine fV_iload (pc' := 84) G 0 dX4_readWord_82 rfl rfl ?_
            refine fV_if_le (tgt := 93) (pc' := 87) G dX4_readWord_84 (by decide) rfl (by omega) (fun c9 => ?_) (fun c9 => ?_)
            · refine fV_aload_n (pc' := 94) G 6 dX4_readWord_93 rfl rfl rfl ?_
              refine fV_aload_n (pc' := 95) G 6 dX4_readWord_94 rfl rfl rfl ?_
              refine fV_get (K := 4) (v := .int (i32 (I7 214 9))) (pc' := 98) G kfX4_readWord_145 (by omega) rfl rfl rfl dX4_readWord_95 rfl ?_
              refine fV_top (b := rdK T n (tE T n (tE T n e0))) (by rw [t_I7.2.2.2.2.1]) ?_
              refine fV_iconst (pc' := 99) G dX4_readWord_98 rfl ?_
              refine fV_icmp_ne (tgt := 106) (pc' := 102) G dX4_readWord_99 (by decide) rfl (by omega) (by decide) (fun c10 => ?_) (fun c10 => ?_)
              · refine fV_iconst (pc' := 107) G dX4_readWord_106 rfl ?_
                refine fV_callVf (st' := [.int (i32 (rdV T n (tE T n (tE T n e0))))]) (n := 1) (k := 214) (K := 4) (As := [.int (i32 0)]) (rest := []) (pc' := 110) G (mX4_acc_w l Γ hN I7 P 0 (by omega) hn hT (by omega) t_I7 w_I7) kcX4_readWord_165 (by omega) rfl rfl rfl rfl (Nat.le_of_ble_eq_true rfl) (Nat.zero_le _) (Nat.zero_le _) dX4_readWord_107 rfl rfl ?_
                refine fV_pop (pc' := 111) G dX4_readWord_110 rfl rfl ?_
                refine fV_aload_n (pc' := 112) G 6 dX4_readWord_111 rfl rfl rfl ?_
                refine fV_get (K := 4) (v := .int (i32 (I7 214 11))) (pc' := 115) G kfX4_readWord_158 (by omega) rfl rfl rfl dX4_readWord_112 rfl ?_
                refine fV_top (b := 1) (by rw [w_I7]) ?_
                refine fV_if_ne (tgt := 167) (pc' := 118) G dX4_readWord_115 (by decide) rfl (by omega) (fun c11 => ?_) (fun c11 => ?_)
                · refine fV_vret G dX4_readWord_167 ?_
                  exact ⟨rfl, by unfold pWord; rw [if_pos ⟨hk1, by omega⟩, if_pos c4, if_neg c6]; exact rdI_e t_I7 rfl w_I7 o_I7, rfl⟩
                · exact absurd c11 (by decide)
              · refine fV_iconst (pc' := 103) G dX4_readWord_102 rfl ?_
                refine fV_goto (tgt := 107) G dX4_readWord_103 (by decide) ?_
                refine fV_callVf (st' := [.int (i32 (rdV T n (tE T n (tE T n e0))))]) (n := 1) (k := 214) (K := 4) (As := [.int (i32 1)]) (rest := []) (pc' := 110) G (mX4_acc_w l Γ hN I7 P 1 (by omega) hn hT (by omega) t_I7 w_I7) kcX4_readWord_165 (by omega) rfl rfl rfl rfl (Nat.le_of_ble_eq_true rfl) (Nat.zero_le _) (Nat.zero_le _) dX4_readWord_107 rfl rfl ?_
                refine fV_pop (pc' := 111) G dX4_readWord_110 rfl rfl ?_
                refine fV_aload_n (pc' := 112) G 6 dX4_readWord_111 rfl rfl rfl ?_
                refine fV_get (K := 4) (v := .int (i32 (I7 214 11))) (pc' := 115) G kfX4_readWord_158 (by omega) rfl rfl rfl dX4_readWord_112 rfl ?_
                refine fV_top (b := 1) (by rw [w_I7]) ?_
                refine fV_if_ne (tgt := 167) (pc' := 118) G dX4_readWord_115 (by decide) rfl (by omega) (fun c11 => ?_) (fun c11 => ?_)
                · refine fV_vret G dX4_readWord_167 ?_
                  exact ⟨rfl, by unfold pWord; rw [if_pos ⟨hk1, by omega⟩, if_pos c4, if_neg c6]; exact rdI_e t_I7 rfl w_I7 o_I7, rfl⟩
                · exact absurd c11 (by decide)
            · exact absurd c9 (by decide)
      · obtain ⟨I5, eI5⟩ : ∃ J9 : fM, J9 = fup I3 214 11 1 := ⟨_, rfl⟩
        refine fV_callVf (I' := I5) (st' := [.int (i32 (rdV T n (tE T n e0)))]) (n := 2) (k := 214) (K := 4) (As := [.int (i32 0), .int (i32 2000)]) (rest := []) (pc' := 46) G (by rw [eI5]; exact mX4_num_n l Γ hN I3 P 0 2000 (by decide) (by decide) hn hT (by omega) t_I3 w_I3 c4) kcX4_readWord_177 (by omega) rfl rfl rfl rfl (Nat.le_of_ble_eq_true rfl) (Nat.zero_le _) (Nat.zero_le _) dX4_readWord_43 rfl rfl ?_
        have t_I5 : rdT I5 T n (tE T n e0) := by rw [eI5]; exact rdT_w t_I3
        have w_I5 : I5 214 11 = 1 := by rw [eI5, fup_s]
        have o_I5 : rdO I I5 := by rw [eI5]; exact rdO_tr o_I3 (rdO_11 _ _)
        refine fV_istore_n (lv' := [(3, .int (i32 (rdV T n (tE T n e0)))), (2, .int (i32 ((tE T n e0) - (tS T n e0)))), (1, .int (i32 (tS T n e0))), (0, .ref (Γ.1 214))]) (pc' := 47) G dX4_readWord_46 rfl (by decide) rfl rfl ?_
        refine fV_aload_n (pc' := 48) G 3 dX4_readWord_47 rfl rfl rfl ?_
        refine fV_iconst (pc' := 49) G dX4_readWord_48 rfl ?_
        refine fV_bipush (n := 60) (pc' := 51) G dX4_readWord_49 rfl rfl ?_
        refine fV_callVf (st' := [.int (i32 (rdV T n (tE T n e0)))]) (n := 2) (k := 214) (K := 4) (As := [.int (i32 1), .int (i32 60)]) (rest := []) (pc' := 54) G (mX4_num_w l Γ hN I5 P 1 60 (by decide) (by decide) hn hT (by omega) t_I5 w_I5) kcX4_readWord_177 (by omega) rfl rfl rfl rfl (Nat.le_of_ble_eq_true rfl) (Nat.zero_le _) (Nat.zero_le _) dX4_readWord_51 rfl rfl ?_
        refine fV_istore (lv' := [(4, .int (i32 (rdV T n (tE T n e0)))), (3, .int (i32 (rdV T n (tE T n e0)))), (2, .int (i32 ((tE T n e0) - (tS T n e0)))), (1, .int (i32 (tS T n e0))), (0, .ref (Γ.1 214))]) (pc' := 56) G dX4_readWord_54 (by decide) rfl rfl ?_
        refine fV_aload_n (pc' := 57) G 4 dX4_readWord_56 rfl rfl rfl ?_
        refine fV_iconst (pc' := 58) G dX4_readWord_57 rfl ?_
        refine fV_bipush (n := 60) (pc' := 60) G dX4_readWord_58 rfl rfl ?_
        refine fV_callVf (st' := [.int (i32 (rdV T n (tE T n e0)))]) (n := 2) (k := 214) (K := 4) (As := [.int (i32 0), .int (i32 60)]) (rest := []) (pc' := 63) G (mX4_num_w l Γ hN I5 P 0 60 (by decide) (by decide) hn hT (by omega) t_I5 w_I5) kcX4_readWord_177 (by omega) rfl rfl rfl rfl (Nat.le_of_ble_eq_true rfl) (Nat.zero_le _) (Nat.zero_le _) dX4_readWord_60 rfl rfl ?_
        refine fV_istore (lv' := [(5, .int (i32 (rdV T n (tE T n e0)))), (4, .int (i32 (rdV T n (tE T n e0)))), (3, .int (i32 (rdV T n (tE T n e0)))), (2, .int (i32 ((tE T n e0) - (tS T n e0)))), (1, .int (i32 (tS T n e0))), (0, .ref (Γ.1 214))]) (pc' := 65) G dX4_readWord_63 (by decide) rfl rfl ?_
        refine fV_aload_n (pc' := 66) G 5 dX4_readWord_65 rfl rfl rfl ?_
        refine fV_get (K := 4) (v := .int (i32 (I5 214 11))) (pc' := 69) G kfX4_readWord_158 (by omega) rfl rfl rfl dX4_readWord_66 rfl ?_
        refine fV_top (b := 1) (by rw [w_I5]) ?_
        refine fV_if_eq (tgt := 76) (pc' := 72) G dX4_readWord_69 (by decide) rfl (by omega) (fun c6 => ?_) (fun c6 => ?_)
        · exact absurd c6 (by decide)
        · refine fV_iconst (pc' := 73) G dX4_readWord_72 rfl ?_
          refine fV_goto (tgt := 80) G dX4_readWord_73 (by decide) ?_
          refine fV_istore (lv' := [(6, .int (i32 0)), (5, .int (i32 (rdV T n (tE T n e0)))), (4, .int (i32 (rdV T n (tE T n e0)))), (3, .int (i32 (rdV T n (tE T n e0)))), (2, .int (i32 ((tE T n e0) - (tS T n e0)))), (1, .int (i32 (tS T n e0))), (0, .ref (Γ.1 214))]) (pc' := 82) G dX4_readWord_80 (by decide) rfl rfl ?_
          refine fV_iload (pc' := 84) G 0 dX4_readWord_82 rfl rfl ?_
          refine fV_if_le (tgt := 93) (pc' := 87) G dX4_readWord_84 (by decide) rfl (by omega) (fun c7 => ?_) (fun c7 => ?_)
          · refine fV_aload_n (pc' := 94) G 6 dX4_readWord_93 rfl rfl rfl ?_
            refine fV_aload_n (pc' := 95) G 6 dX4_readWord_94 rfl rfl rfl ?_
            refine fV_get (K := 4) (v := .int (i32 (I5 214 9))) (pc' := 98) G kfX4_readWord_145 (by omega) rfl rfl rfl dX4_readWord_95 rfl ?_
            refine fV_top (b := rdK T n (tE T n e0)) (by rw [t_I5.2.2.2.2.1]) ?_
            refine fV_iconst (pc' := 99) G dX4_readWord_98 rfl ?_
            refine fV_icmp_ne (tgt := 106) (pc' := 102) G dX4_readWord_99 (by decide) rfl (by omega) (by decide) (fun c8 => ?_) (fun c8 => ?_)
            · refine fV_iconst (pc' := 107) G dX4_readWord_106 rfl ?_
              refine fV_callVf (st' := [.int (i32 (rdV T n (tE T n e0)))]) (n := 1) (k := 214) (K := 4) (As := [.int (i32 0)]) (rest := []) (pc' := 110) G (mX4_acc_w l Γ hN I5 P 0 (by omega) hn hT (by omega) t_I5 w_I5) kcX4_readWord_165 (by omega) rfl rfl rfl rfl (Nat.le_of_ble_eq_true rfl) (Nat.zero_le _) (Nat.zero_le _) dX4_readWord_107 rfl rfl ?_
              refine fV_pop (pc' := 111) G dX4_readWord_110 rfl rfl ?_
              refine fV_aload_n (pc' := 112) G 6 dX4_readWord_111 rfl rfl rfl ?_
              refine fV_get (K := 4) (v := .int (i32 (I5 214 11))) (pc' := 115) G kfX4_readWord_158 (by omega) rfl rfl rfl dX4_readWord_112 rfl ?_
              refine fV_top (b := 1) (by rw [w_I5]) ?_
              refine fV_if_ne (tgt := 167) (pc' := 118) G dX4_readWord_115 (by decide) rfl (by omega) (fun c9 => ?_) (fun c9 => ?_)
              · refine fV_vret G dX4_readWord_167 ?_
                exact ⟨rfl, by unfold pWord; rw [if_pos ⟨hk1, by omega⟩, if_neg c4]; exact rdI_e t_I5 rfl w_I5 o_I5, rfl⟩
              · exact absurd c9 (by decide)
            · refine fV_iconst (pc' := 103) G dX4_readWord_102 rfl ?_
              refine fV_goto (tgt := 107) G dX4_readWord_103 (by decide) ?_
              refine fV_callVf (st' := [.int (i32 (rdV T n (tE T n e0)))]) (n := 1) (k := 214) (K := 4) (As := [.int (i32 1)]) (rest := []) (pc' := 110) G (mX4_acc_w l Γ hN I5 P 1 (by omega) hn hT (by omega) t_I5 w_I5) kcX4_readWord_165 (by omega) rfl rfl rfl rfl (Nat.le_of_ble_eq_true rfl) (Nat.zero_le _) (Nat.zero_le _) dX4_readWord_107 rfl rfl ?_
              refine fV_pop (pc' := 111) G dX4_readWord_110 rfl rfl ?_
              refine fV_aload_n (pc' := 112) G 6 dX4_readWord_111 rfl rfl rfl ?_
              refine fV_get (K := 4) (v := .int (i32 (I5 214 11))) (pc' := 115) G kfX4_readWord_158 (by omega) rfl rfl rfl dX4_readWord_112 rfl ?_
              refine fV_top (b := 1) (by rw [w_I5]) ?_
              refine fV_if_ne (tgt := 167) (pc' := 118) G dX4_readWord_115 (by decide) rfl (by omega) (fun c9 => ?_) (fun c9 => ?_)
              · refine fV_vret G dX4_readWord_167 ?_
                exact ⟨rfl, by unfold pWord; rw [if_pos ⟨hk1, by omega⟩, if_neg c4]; exact rdI_e t_I5 rfl w_I5 o_I5, rfl⟩
              · exact absurd c9 (by decide)
          · exact absurd c7 (by decide)
set_option maxHeartbeats 4000000 in
set_option maxRecDepth 100000 in
theorem mX4_readItem (l : Launch) (Γ : fG) {N : Nat} (hN : 220 ≤ N) (I : fM) (P : fN) {T : Int → Int} {n : Int} (hn : 0 ≤ n ∧ n ≤ 160) (hT : tOk T n) {e0 : Int} (he : 0 ≤ e0 ∧ e0 ≤ n) (h : rdT I T n e0) (h11 : I 214 11 = 0) (hm : mOkr (I 215)) : fMet l yX4_readItem wsX4_readItem rmX4_readItem Γ N [.ref (Γ.1 214)] I P (fun v J Q => v = none ∧ rdI I T n (pItem T n (I 215) e0) J ∧ Q = P) := by
  refine fMet_of (own := RX4) (cc := cX4_readItem) (maxL := 3) (ret := none) rfl (by decide +kernel) rfl (Nat.le_of_ble_eq_true rfl) ?_
  intro p e s m args below meth c G
  have sb_I := tS_b (T := T) (n := n) (e := e0) (by omega)
  have ez_I := tE_b (T := T) (n := n) (e := e0) (by omega)
  have eb_I := And.intro ez_I.1 ez_I.2.1
  clear ez_I
  have kb_I := rdK_b T n e0
  have vb_I := rdV_b (T := T) (n := n) (e := e0) (by omega)
  have nb_I := tNum_ge (T := T) (n := n) (e := e0) (by omega)
  have hv0 := hm.1.1
  have hv1 := hm.1.2.1
  refine fV_lv (lv' := [(0, .ref (Γ.1 214))]) [0] rfl ?_
  refine fV_aload_n (pc' := 1) G 0 dX4_readItem_0 rfl rfl rfl ?_
  refine fV_get (K := 4) (v := .int (i32 (I 214 9))) (pc' := 4) G kfX4_readItem_145 (by omega) rfl rfl rfl dX4_readItem_1 rfl ?_
  refine fV_top (b := rdK T n e0) (by rw [h.2.2.2.2.1]) ?_
  refine fV_if_ne (tgt := 22) (pc' := 7) G dX4_readItem_4 (by decide) rfl (by omega) (fun c1 => ?_) (fun c1 => ?_)
  · refine fV_iconst (pc' := 23) G dX4_readItem_22 rfl ?_
    refine fV_istore_n (lv' := [(1, .int (i32 0)), (0, .ref (Γ.1 214))]) (pc' := 24) G dX4_readItem_23 rfl (by decide) rfl rfl ?_
    refine fV_aload_n (pc' := 25) G 1 dX4_readItem_24 rfl rfl rfl ?_
    refine fV_get (K := 4) (v := .int (i32 (I 214 9))) (pc' := 28) G kfX4_readItem_145 (by omega) rfl rfl rfl dX4_readItem_25 rfl ?_
    refine fV_top (b := rdK T n e0) (by rw [h.2.2.2.2.1]) ?_
    refine fV_if_ne (tgt := 46) (pc' := 31) G dX4_readItem_28 (by decide) rfl (by omega) (fun c2 => ?_) (fun c2 => ?_)
    · refine fV_iconst (pc' := 47) G dX4_readItem_46 rfl ?_
      refine fV_istore_n (lv' := [(2, .int (i32 0)), (1, .int (i32 0)), (0, .ref (Γ.1 214))]) (pc' := 48) G dX4_readItem_47 rfl (by decide) rfl rfl ?_
      refine fV_aload_n (pc' := 49) G 2 dX4_readItem_48 rfl rfl rfl ?_
      refine fV_iload_n (pc' := 50) G 1 dX4_readItem_49 rfl rfl rfl ?_
      refine fV_if_eq (tgt := 64) (pc' := 53) G dX4_readItem_50 (by decide) rfl (by omega) (fun c3 => ?_) (fun c3 => ?_)
      · refine fV_iload_n (pc' := 65) G 0 dX4_readItem_64 rfl rfl rfl ?_
        refine fV_if_eq (tgt := 83) (pc' := 68) G dX4_readItem_65 (by decide) rfl (by omega) (fun c4 => ?_) (fun c4 => ?_)
        · refine fV_iconst (pc' := 84) G dX4_readItem_83 rfl ?_
          have hntn : ¬ tNmB T n e0 0 = true := fun z => by have := rdK_0.mpr (tNmB_iff.mp z).1; omega
          have hntc : ¬ tNmB T n e0 1 = true := fun z => by have := rdK_0.mpr (tNmB_iff.mp z).1; omega
          obtain ⟨I5, eI5⟩ : ∃ J9 : fM, J9 = fup I 214 11 1 := ⟨_, rfl⟩
          refine fV_callVf (I' := I5) (st' := [.int (i32 (rdV T n e0))]) (n := 1) (k := 214) (K := 4) (As := [.int (i32 0)]) (rest := []) (pc' := 87) G (by rw [eI5]; exact mX4_acc_n l Γ hN I P hn hT (by omega) h h11) kcX4_readItem_165 (by omega) rfl rfl rfl rfl (Nat.le_of_ble_eq_true rfl) (Nat.zero_le _) (Nat.zero_le _) dX4_readItem_84 rfl rfl ?_
          have t_I5 : rdT I5 T n (e0) := by rw [eI5]; exact rdT_w h
          have w_I5 : I5 214 11 = 1 := by rw [eI5, fup_s]
          have o_I5 : rdO I I5 := by rw [eI5]; exact rdO_tr (rdO_r I) (rdO_11 _ _)
          refine fV_pop (pc' := 88) G dX4_readItem_87 rfl rfl ?_
          refine fV_aload_n (pc' := 89) G 2 dX4_readItem_88 rfl rfl rfl ?_
          refine fV_get (K := 4) (v := .int (i32 (I5 214 11))) (pc' := 92) G kfX4_readItem_158 (by omega) rfl rfl rfl dX4_readItem_89 rfl ?_
          refine fV_top (b := 1) (by rw [w_I5]) ?_
          refine fV_if_eq (tgt := 96) (pc' := 95) G dX4_readItem_92 (by decide) rfl (by omega) (fun c6 => ?_) (fun c6 => ?_)
          · exact absurd c6 (by decide)
          · refine fV_vret G dX4_readItem_95 ?_
            exact ⟨rfl, by unfold pItem; rw [if_neg (by first | (exact fun z => hntn z.1) | (intro z; omega)), if_neg (by first | (exact fun z => hntc z.1) | (intro z; omega))]; exact rdI_e t_I5 rfl w_I5 o_I5, rfl⟩
        · exact absurd c4 (by decide)
      · exact absurd c3 (by decide)
    · exact absurd c2 (by omega)
  · refine fV_aload_n (pc' := 8) G 0 dX4_readItem_7 rfl rfl rfl ?_
    refine fV_get (K := 4) (v := .long (i64 (I 214 10))) (pc' := 11) G kfX4_readItem_137 (by omega) rfl rfl rfl dX4_readItem_8 rfl ?_
    refine fV_st (st' := [.long (i64 (rdV T n e0))]) (by rw [h.2.2.2.2.2]) ?_
    refine fV_ldc2 (a := 13903) (pc' := 14) G klX4_readItem_183 rfl dX4_readItem_11 rfl ?_
    refine fV_lcmp (pc' := 15) G dX4_readItem_14 rfl (by omega) (by omega) ?_
    refine fV_if_ne (tgt := 22) (pc' := 18) G dX4_readItem_15 (by decide) rfl (by unfold fcm; (split <;> first | omega | (split <;> omega))) (fun c2 => ?_) (fun c2 => ?_)
    · unfold fcm at c2
      have hw9 : ¬ rdV T n e0 = 13903 := by intro z9; rw [z9] at c2; exact absurd c2 (by decide)
      have hntn : ¬ tNmB T n e0 0 = true := fun z => hw9 ((rd_n0 he.2 (rdK_0.mp (by omega))).mpr (tNmB_iff.mp z))
      refine fV_iconst (pc' := 23) G dX4_readItem_22 rfl ?_
      refine fV_istore_n (lv' := [(1, .int (i32 0)), (0, .ref (Γ.1 214))]) (pc' := 24) G dX4_readItem_23 rfl (by decide) rfl rfl ?_
      refine fV_aload_n (pc' := 25) G 1 dX4_readItem_24 rfl rfl rfl ?_
      refine fV_get (K := 4) (v := .int (i32 (I 214 9))) (pc' := 28) G kfX4_readItem_145 (by omega) rfl rfl rfl dX4_readItem_25 rfl ?_
      refine fV_top (b := rdK T n e0) (by rw [h.2.2.2.2.1]) ?_
      refine fV_if_ne (tgt := 46) (pc' := 31) G dX4_readItem_28 (by decide) rfl (by omega) (fun c3 => ?_) (fun c3 => ?_)
      · exact absurd c3 (by omega)
      · refine fV_aload_n (pc' := 32) G 1 dX4_readItem_31 rfl rfl rfl ?_
        refine fV_get (K := 4) (v := .long (i64 (I 214 10))) (pc' := 35) G kfX4_readItem_137 (by omega) rfl rfl rfl dX4_readItem_32 rfl ?_
        refine fV_st (st' := [.long (i64 (rdV T n e0))]) (by rw [h.2.2.2.2.2]) ?_
        refine fV_ldc2 (a := 2774) (pc' := 38) G klX4_readItem_185 rfl dX4_readItem_35 rfl ?_
        refine fV_lcmp (pc' := 39) G dX4_readItem_38 rfl (by omega) (by omega) ?_
        refine fV_if_ne (tgt := 46) (pc' := 42) G dX4_readItem_39 (by decide) rfl (by unfold fcm; (split <;> first | omega | (split <;> omega))) (fun c4 => ?_) (fun c4 => ?_)
        · unfold fcm at c4
          have hw8 : ¬ rdV T n e0 = 2774 := by intro z9; rw [z9] at c4; exact absurd c4 (by decide)
          have hntc : ¬ tNmB T n e0 1 = true := fun z => hw8 ((rd_n1 he.2 (rdK_0.mp (by omega))).mpr (tNmB_iff.mp z))
          refine fV_iconst (pc' := 47) G dX4_readItem_46 rfl ?_
          refine fV_istore_n (lv' := [(2, .int (i32 0)), (1, .int (i32 0)), (0, .ref (Γ.1 214))]) (pc' := 48) G dX4_readItem_47 rfl (by decide) rfl rfl ?_
          refine fV_aload_n (pc' := 49) G 2 dX4_readItem_48 rfl rfl rfl ?_
          refine fV_iload_n (pc' := 50) G 1 dX4_readItem_49 rfl rfl rfl ?_
          refine fV_if_eq (tgt := 64) (pc' := 53) G dX4_readItem_50 (by decide) rfl (by omega) (fun c5 => ?_) (fun c5 => ?_)
          · refine fV_iload_n (pc' := 65) G 0 dX4_readItem_64 rfl rfl rfl ?_
            refine fV_if_eq (tgt := 83) (pc' := 68) G dX4_readItem_65 (by decide) rfl (by omega) (fun c6 => ?_) (fun c6 => ?_)
            · refine fV_iconst (pc' := 84) G dX4_readItem_83 rfl ?_
              obtain ⟨I7, eI7⟩ : ∃ J9 : fM, J9 = fup I 214 11 1 := ⟨_, rfl⟩
              refine fV_callVf (I' := I7) (st' := [.int (i32 (rdV T n e0))]) (n := 1) (k := 214) (K := 4) (As := [.int (i32 0)]) (rest := []) (pc' := 87) G (by rw [eI7]; exact mX4_acc_n l Γ hN I P hn hT (by omega) h h11) kcX4_readItem_165 (by omega) rfl rfl rfl rfl (Nat.le_of_ble_eq_true rfl) (Nat.zero_le _) (Nat.zero_le _) dX4_readItem_84 rfl rfl ?_
              have t_I7 : rdT I7 T n (e0) := by rw [eI7]; exact rdT_w h
              have w_I7 : I7 214 11 = 1 := by rw [eI7, fup_s]
              have o_I7 : rdO I I7 := by rw [eI7]; exact rdO_tr (rdO_r I) (rdO_11 _ _)
              refine fV_pop (pc' := 88) G dX4_readItem_87 rfl rfl ?_
              refine fV_aload_n (pc' := 89) G 2 dX4_readItem_88 rfl rfl rfl ?_
              refine fV_get (K := 4) (v := .int (i32 (I7 214 11))) (pc' := 92) G kfX4_readItem_158 (by omega) rfl rfl rfl dX4_readItem_89 rfl ?_
              refine fV_top (b := 1) (by rw [w_I7]) ?_
              refine fV_if_eq (tgt := 96) (pc' := 95) G dX4_readItem_92 (by decide) rfl (by omega) (fun c8 => ?_) (fun c8 => ?_)
              · exact absurd c8 (by decide)
              · refine fV_vret G dX4_readItem_95 ?_
                exact ⟨rfl, by unfold pItem; rw [if_neg (by first | (exact fun z => hntn z.1) | (intro z; omega)), if_neg (by first | (exact fun z => hntc z.1) | (intro z; omega))]; exact rdI_e t_I7 rfl w_I7 o_I7, rfl⟩
            · exact absurd c6 (by decide)
          · exact absurd c5 (by decide)
        · unfold fcm at c4
          have hw8 : rdV T n e0 = 2774 := by (repeat' split at c4) <;> omega
          have htc : tNmB T n e0 1 = true := tNmB_iff.mpr ((rd_n1 he.2 (rdK_0.mp (by omega))).mp hw8)
          refine fV_iconst (pc' := 43) G dX4_readItem_42 rfl ?_
          refine fV_goto (tgt := 47) G dX4_readItem_43 (by decide) ?_
          refine fV_istore_n (lv' := [(2, .int (i32 1)), (1, .int (i32 0)), (0, .ref (Γ.1 214))]) (pc' := 48) G dX4_readItem_47 rfl (by decide) rfl rfl ?_
          refine fV_aload_n (pc' := 49) G 2 dX4_readItem_48 rfl rfl rfl ?_
          refine fV_iload_n (pc' := 50) G 1 dX4_readItem_49 rfl rfl rfl ?_
          refine fV_if_eq (tgt := 64) (pc' := 53) G dX4_readItem_50 (by decide) rfl (by omega) (fun c5 => ?_) (fun c5 => ?_)
          · refine fV_iload_n (pc' := 65) G 0 dX4_readItem_64 rfl rfl rfl ?_
            refine fV_if_eq (tgt := 83) (pc' := 68) G dX4_readItem_65 (by decide) rfl (by omega) (fun c6 => ?_) (fun c6 => ?_)
            · exact absurd c6 (by decide)
            · refine fV_aload_n (pc' := 69) G 2 dX4_readItem_68 rfl rfl rfl ?_
              refine fV_get (K := 4) (v := .ref (Γ.1 215)) (pc' := 72) G kfX4_readItem_7 (by omega) rfl rfl rfl dX4_readItem_69 rfl ?_
              refine fV_iconst (pc' := 73) G dX4_readItem_72 rfl ?_
              refine fV_iald (K := 8) (n := 241) (pc' := 74) G (by omega) rfl (fun _ _ => rfl) (by decide) (by omega) dX4_readItem_73 rfl ?_
              refine fV_bipush (n := 10) (pc' := 76) G dX4_readItem_74 rfl rfl ?_
              refine fV_icmp_ge (tgt := 83) (pc' := 79) G dX4_readItem_76 (by decide) rfl (by omega) (by decide) (fun c7 => ?_) (fun c7 => ?_)
              · refine fV_iconst (pc' := 84) G dX4_readItem_83 rfl ?_
                obtain ⟨I8, eI8⟩ : ∃ J9 : fM, J9 = fup I 214 11 1 := ⟨_, rfl⟩
                refine fV_callVf (I' := I8) (st' := [.int (i32 (rdV T n e0))]) (n := 1) (k := 214) (K := 4) (As := [.int (i32 0)]) (rest := []) (pc' := 87) G (by rw [eI8]; exact mX4_acc_n l Γ hN I P hn hT (by omega) h h11) kcX4_readItem_165 (by omega) rfl rfl rfl rfl (Nat.le_of_ble_eq_true rfl) (Nat.zero_le _) (Nat.zero_le _) dX4_readItem_84 rfl rfl ?_
                have t_I8 : rdT I8 T n (e0) := by rw [eI8]; exact rdT_w h
                have w_I8 : I8 214 11 = 1 := by rw [eI8, fup_s]
                have o_I8 : rdO I I8 := by rw [eI8]; exact rdO_tr (rdO_r I) (rdO_11 _ _)
                refine fV_pop (pc' := 88) G dX4_readItem_87 rfl rfl ?_
                refine fV_aload_n (pc' := 89) G 2 dX4_readItem_88 rfl rfl rfl ?_
                refine fV_get (K := 4) (v := .int (i32 (I8 214 11))) (pc' := 92) G kfX4_readItem_158 (by omega) rfl rfl rfl dX4_readItem_89 rfl ?_
                refine fV_top (b := 1) (by rw [w_I8]) ?_
                refine fV_if_eq (tgt := 96) (pc' := 95) G dX4_readItem_92 (by decide) rfl (by omega) (fun c9 => ?_) (fun c9 => ?_)
                · exact absurd c9 (by decide)
                · refine fV_vret G dX4_readItem_95 ?_
                  exact ⟨rfl, by unfold pItem; rw [if_neg (by first | (exact fun z => hntn z.1) | (intro z; omega)), if_neg (by first | (exact fun z => hntc z.1) | (intro z; omega))]; exact rdI_e t_I8 rfl w_I8 o_I8, rfl⟩
              · refine fV_iconst (pc' := 80) G dX4_readItem_79 rfl ?_
                refine fV_goto (tgt := 84) G dX4_readItem_80 (by decide) ?_
                obtain ⟨I8, eI8⟩ : ∃ J9 : fM, J9 = rdS I := ⟨_, rfl⟩
                refine fV_callVf (I' := I8) (st' := [.int (i32 (rdV T n e0))]) (n := 1) (k := 214) (K := 4) (As := [.int (i32 1)]) (rest := []) (pc' := 87) G (by rw [eI8]; exact mX4_acc_y l Γ hN I P hn hT (by omega) h h11) kcX4_readItem_165 (by omega) rfl rfl rfl rfl (Nat.le_of_ble_eq_true rfl) (Nat.zero_le _) (Nat.zero_le _) dX4_readItem_84 rfl rfl ?_
                have t_I8 : rdT I8 T n (tE T n e0) := by rw [eI8]; exact rdT_n h
                have w_I8 : I8 214 11 = 0 := by rw [eI8, rdS_11]; exact h11
                have o_I8 : rdO I I8 := by rw [eI8]; exact rdO_tr (rdO_r I) (rdO_s _)
                have sb_I8 := tS_b (T := T) (n := n) (e := tE T n e0) (by omega)
                have ez_I8 := tE_b (T := T) (n := n) (e := tE T n e0) (by omega)
                have eb_I8 := And.intro ez_I8.1 ez_I8.2.1
                clear ez_I8
                have kb_I8 := rdK_b T n (tE T n e0)
                have vb_I8 := rdV_b (T := T) (n := n) (e := tE T n e0) (by omega)
                have nb_I8 := tNum_ge (T := T) (n := n) (e := tE T n e0) (by omega)
                refine fV_pop (pc' := 88) G dX4_readItem_87 rfl rfl ?_
                refine fV_aload_n (pc' := 89) G 2 dX4_readItem_88 rfl rfl rfl ?_
                refine fV_get (K := 4) (v := .int (i32 (I8 214 11))) (pc' := 92) G kfX4_readItem_158 (by omega) rfl rfl rfl dX4_readItem_89 rfl ?_
                refine fV_top (b := 0) (by rw [w_I8]) ?_
                refine fV_if_eq (tgt := 96) (pc' := 95) G dX4_readItem_92 (by decide) rfl (by omega) (fun c9 => ?_) (fun c9 => ?_)
                · refine fV_iload_n (pc' := 97) G 1 dX4_readItem_96 rfl rfl rfl ?_
                  refine fV_if_eq (tgt := 107) (pc' := 100) G dX4_readItem_97 (by decide) rfl (by omega) (fun c10 => ?_) (fun c10 => ?_)
                  · refine fV_aload_n (pc' := 108) G 2 dX4_readItem_107 rfl rfl rfl ?_
                    have e5_I8 : I8 215 = I 215 := o_I8.1 215 (by decide)
                    refine fV_callV (n := 0) (k := 214) (K := 4) (As := []) (rest := []) (pc' := 111) G (mX4_readShot l Γ hN I8 P hn hT (by omega) t_I8 w_I8 (by rw [e5_I8]; exact hm) (by rw [e5_I8]; omega)) kcX4_readItem_190 (by omega) rfl rfl rfl rfl (Nat.le_of_ble_eq_true rfl) (Nat.zero_le _) (Nat.zero_le _) dX4_readItem_108 rfl (fun v11 I12 P13 h14 => ?_)
                    obtain ⟨h14v, hrd, eP13⟩ := h14
                    refine fV_st (st' := []) (by rw [h14v]; rfl) ?_
                    rw [e5_I8] at hrd
                    refine fV_vret G dX4_readItem_111 ?_
                    exact ⟨rfl, by unfold pItem; rw [if_neg (fun z => hntn z.1), if_pos ⟨htc, by omega⟩]; exact rdI_tr o_I8 hrd, eP13⟩
                  · exact absurd c10 (by decide)
                · exact absurd c9 (by decide)
          · exact absurd c5 (by decide)
    · unfold fcm at c2
      have hw9 : rdV T n e0 = 13903 := by (repeat' split at c2) <;> omega
      have htn : tNmB T n e0 0 = true := tNmB_iff.mpr ((rd_n0 he.2 (rdK_0.mp (by omega))).mp hw9)
      refine fV_iconst (pc' := 19) G dX4_readItem_18 rfl ?_
      refine fV_goto (tgt := 23) G dX4_readItem_19 (by decide) ?_
      refine fV_istore_n (lv' := [(1, .int (i32 1)), (0, .ref (Γ.1 214))]) (pc' := 24) G dX4_readItem_23 rfl (by decide) rfl rfl ?_
      refine fV_aload_n (pc' := 25) G 1 dX4_readItem_24 rfl rfl rfl ?_
      refine fV_get (K := 4) (v := .int (i32 (I 214 9))) (pc' := 28) G kfX4_readItem_145 (by omega) rfl rfl rfl dX4_readItem_25 rfl ?_
      refine fV_top (b := rdK T n e0) (by rw [h.2.2.2.2.1]) ?_
      refine fV_if_ne (tgt := 46) (pc' := 31) G dX4_readItem_28 (by decide) rfl (by omega) (fun c3 => ?_) (fun c3 => ?_)
      · exact absurd c3 (by omega)
      · refine fV_aload_n (pc' := 32) G 1 dX4_readItem_31 rfl rfl rfl ?_
        refine fV_get (K := 4) (v := .long (i64 (I 214 10))) (pc' := 35) G kfX4_readItem_137 (by omega) rfl rfl rfl dX4_readItem_32 rfl ?_
        refine fV_st (st' := [.long (i64 (rdV T n e0))]) (by rw [h.2.2.2.2.2]) ?_
        refine fV_ldc2 (a := 2774) (pc' := 38) G klX4_readItem_185 rfl dX4_readItem_35 rfl ?_
        refine fV_lcmp (pc' := 39) G dX4_readItem_38 rfl (by omega) (by omega) ?_
        refine fV_if_ne (tgt := 46) (pc' := 42) G dX4_readItem_39 (by decide) rfl (by unfold fcm; (split <;> first | omega | (split <;> omega))) (fun c4 => ?_) (fun c4 => ?_)
        · unfold fcm at c4
          have hw8 : ¬ rdV T n e0 = 2774 := by intro z9; rw [z9] at c4; exact absurd c4 (by decide)
          have hntc : ¬ tNmB T n e0 1 = true := fun z => hw8 ((rd_n1 he.2 (rdK_0.mp (by omega))).mpr (tNmB_iff.mp z))
          refine fV_iconst (pc' := 47) G dX4_readItem_46 rfl ?_
          refine fV_istore_n (lv' := [(2, .int (i32 0)), (1, .int (i32 1)), (0, .ref (Γ.1 214))]) (pc' := 48) G dX4_readItem_47 rfl (by decide) rfl rfl ?_
          refine fV_aload_n (pc' := 49) G 2 dX4_readItem_48 rfl rfl rfl ?_
          refine fV_iload_n (pc' := 50) G 1 dX4_readItem_49 rfl rfl rfl ?_
          refine fV_if_eq (tgt := 64) (pc' := 53) G dX4_readItem_50 (by decide) rfl (by omega) (fun c5 => ?_) (fun c5 => ?_)
          · exact absurd c5 (by decide)
          · refine fV_aload_n (pc' := 54) G 2 dX4_readItem_53 rfl rfl rfl ?_
            refine fV_get (K := 4) (v := .ref (Γ.1 215)) (pc' := 57) G kfX4_readItem_7 (by omega) rfl rfl rfl dX4_readItem_54 rfl ?_
            refine fV_iconst (pc' := 58) G dX4_readItem_57 rfl ?_
            refine fV_iald (K := 8) (n := 241) (pc' := 59) G (by omega) rfl (fun _ _ => rfl) (by decide) (by omega) dX4_readItem_58 rfl ?_
            refine fV_bipush (n := 12) (pc' := 61) G dX4_readItem_59 rfl rfl ?_
            refine fV_icmp_lt (tgt := 79) (pc' := 64) G dX4_readItem_61 (by decide) rfl (by omega) (by decide) (fun c6 => ?_) (fun c6 => ?_)
            · refine fV_iconst (pc' := 80) G dX4_readItem_79 rfl ?_
              refine fV_goto (tgt := 84) G dX4_readItem_80 (by decide) ?_
              obtain ⟨I7, eI7⟩ : ∃ J9 : fM, J9 = rdS I := ⟨_, rfl⟩
              refine fV_callVf (I' := I7) (st' := [.int (i32 (rdV T n e0))]) (n := 1) (k := 214) (K := 4) (As := [.int (i32 1)]) (rest := []) (pc' := 87) G (by rw [eI7]; exact mX4_acc_y l Γ hN I P hn hT (by omega) h h11) kcX4_readItem_165 (by omega) rfl rfl rfl rfl (Nat.le_of_ble_eq_true rfl) (Nat.zero_le _) (Nat.zero_le _) dX4_readItem_84 rfl rfl ?_
              have t_I7 : rdT I7 T n (tE T n e0) := by rw [eI7]; exact rdT_n h
              have w_I7 : I7 214 11 = 0 := by rw [eI7, rdS_11]; exact h11
              have o_I7 : rdO I I7 := by rw [eI7]; exact rdO_tr (rdO_r I) (rdO_s _)
              have sb_I7 := tS_b (T := T) (n := n) (e := tE T n e0) (by omega)
              have ez_I7 := tE_b (T := T) (n := n) (e := tE T n e0) (by omega)
              have eb_I7 := And.intro ez_I7.1 ez_I7.2.1
              clear ez_I7
              have kb_I7 := rdK_b T n (tE T n e0)
              have vb_I7 := rdV_b (T := T) (n := n) (e := tE T n e0) (by omega)
              have nb_I7 := tNum_ge (T := T) (n := n) (e := tE T n e0) (by omega)
              refine fV_pop (pc' := 88) G dX4_readItem_87 rfl rfl ?_
              refine fV_aload_n (pc' := 89) G 2 dX4_readItem_88 rfl rfl rfl ?_
              refine fV_get (K := 4) (v := .int (i32 (I7 214 11))) (pc' := 92) G kfX4_readItem_158 (by omega) rfl rfl rfl dX4_readItem_89 rfl ?_
              refine fV_top (b := 0) (by rw [w_I7]) ?_
              refine fV_if_eq (tgt := 96) (pc' := 95) G dX4_readItem_92 (by decide) rfl (by omega) (fun c8 => ?_) (fun c8 => ?_)
              · refine fV_iload_n (pc' := 97) G 1 dX4_readItem_96 rfl rfl rfl ?_
                refine fV_if_eq (tgt := 107) (pc' := 100) G dX4_readItem_97 (by decide) rfl (by omega) (fun c9 => ?_) (fun c9 => ?_)
                · exact absurd c9 (by decide)
                · refine fV_aload_n (pc' := 101) G 2 dX4_readItem_100 rfl rfl rfl ?_
                  have e5_I7 : I7 215 = I 215 := o_I7.1 215 (by decide)
                  refine fV_callV (n := 0) (k := 214) (K := 4) (As := []) (rest := []) (pc' := 104) G (mX4_readWord l Γ hN I7 P hn hT (by omega) t_I7 w_I7 (by rw [e5_I7]; exact hm) (by rw [e5_I7]; omega)) kcX4_readItem_187 (by omega) rfl rfl rfl rfl (Nat.le_of_ble_eq_true rfl) (Nat.zero_le _) (Nat.zero_le _) dX4_readItem_101 rfl (fun v10 I11 P12 h13 => ?_)
                  obtain ⟨h13v, hrd, eP12⟩ := h13
                  refine fV_st (st' := []) (by rw [h13v]; rfl) ?_
                  have hrd := hrd
                  refine fV_goto (tgt := 111) G dX4_readItem_104 (by decide) ?_
                  refine fV_vret G dX4_readItem_111 ?_
                  exact ⟨rfl, by unfold pItem; rw [if_pos ⟨htn, by omega⟩]; exact rdI_tr o_I7 hrd, eP12⟩
              · exact absurd c8 (by decide)
            · refine fV_iload_n (pc' := 65) G 0 dX4_readItem_64 rfl rfl rfl ?_
              refine fV_if_eq (tgt := 83) (pc' := 68) G dX4_readItem_65 (by decide) rfl (by omega) (fun c7 => ?_) (fun c7 => ?_)
              · refine fV_iconst (pc' := 84) G dX4_readItem_83 rfl ?_
                obtain ⟨I8, eI8⟩ : ∃ J9 : fM, J9 = fup I 214 11 1 := ⟨_, rfl⟩
                refine fV_callVf (I' := I8) (st' := [.int (i32 (rdV T n e0))]) (n := 1) (k := 214) (K := 4) (As := [.int (i32 0)]) (rest := []) (pc' := 87) G (by rw [eI8]; exact mX4_acc_n l Γ hN I P hn hT (by omega) h h11) kcX4_readItem_165 (by omega) rfl rfl rfl rfl (Nat.le_of_ble_eq_true rfl) (Nat.zero_le _) (Nat.zero_le _) dX4_readItem_84 rfl rfl ?_
                have t_I8 : rdT I8 T n (e0) := by rw [eI8]; exact rdT_w h
                have w_I8 : I8 214 11 = 1 := by rw [eI8, fup_s]
                have o_I8 : rdO I I8 := by rw [eI8]; exact rdO_tr (rdO_r I) (rdO_11 _ _)
                refine fV_pop (pc' := 88) G dX4_readItem_87 rfl rfl ?_
                refine fV_aload_n (pc' := 89) G 2 dX4_readItem_88 rfl rfl rfl ?_
                refine fV_get (K := 4) (v := .int (i32 (I8 214 11))) (pc' := 92) G kfX4_readItem_158 (by omega) rfl rfl rfl dX4_readItem_89 rfl ?_
                refine fV_top (b := 1) (by rw [w_I8]) ?_
                refine fV_if_eq (tgt := 96) (pc' := 95) G dX4_readItem_92 (by decide) rfl (by omega) (fun c9 => ?_) (fun c9 => ?_)
                · exact absurd c9 (by decide)
                · refine fV_vret G dX4_readItem_95 ?_
                  exact ⟨rfl, by unfold pItem; rw [if_neg (by first | (exact fun z => hntn z.1) | (intro z; omega)), if_neg (by first | (exact fun z => hntc z.1) | (intro z; omega))]; exact rdI_e t_I8 rfl w_I8 o_I8, rfl⟩
              · exact absurd c7 (by decide)
        · unfold fcm at c4
          rw [hw9] at c4
          exact absurd c4 (by decide)
