/-! CONTRACTS 21: the reference's reading of a token (rows laid by wip/whole/gen/con21.py) -/
set_option maxHeartbeats 4000000 in
set_option maxRecDepth 100000 in
theorem mX4_here (l : Launch) (Γ : fG) {N : Nat} (hN : 220 ≤ N) (I : fM) (P : fN) (hj : 0 ≤ I 214 7 ∧ I 214 7 ≤ 160) (hn : 0 ≤ I 214 6 ∧ I 214 6 ≤ 160) : fMet l yX4_here wsX4_here rmX4_here Γ N [.ref (Γ.1 214)] I P (fE (some (.int (i32 (rdH I)))) I P) := by
  refine fMet_of (own := RX4) (cc := cX4_here) (maxL := 1) (ret := (some .int)) rfl (by decide +kernel) rfl (Nat.le_of_ble_eq_true rfl) ?_
  intro p e s m args below meth c G
  refine fV_lv (lv' := [(0, .ref (Γ.1 214))]) [0] rfl ?_
  refine fV_aload_n (pc' := 1) G 0 dX4_here_0 rfl rfl rfl ?_
  refine fV_get (K := 4) (v := .int (i32 (I 214 7))) (pc' := 4) G kfX4_here_127 (by omega) rfl rfl rfl dX4_here_1 rfl ?_
  refine fV_aload_n (pc' := 5) G 0 dX4_here_4 rfl rfl rfl ?_
  refine fV_get (K := 4) (v := .int (i32 (I 214 6))) (pc' := 8) G kfX4_here_124 (by omega) rfl rfl rfl dX4_here_5 rfl ?_
  refine fV_icmp_ge (tgt := 23) (pc' := 11) G dX4_here_8 (by decide) rfl (by omega) (by omega) (fun c1 => ?_) (fun c1 => ?_)
  · refine fV_iconst (pc' := 24) G dX4_here_23 rfl ?_
    refine fV_iret G dX4_here_24 ?_
    exact fE_i (by unfold rdH rdh; split <;> first | rfl | omega)
  · refine fV_aload_n (pc' := 12) G 0 dX4_here_11 rfl rfl rfl ?_
    refine fV_get (K := 4) (v := .ref (Γ.1 218)) (pc' := 15) G kfX4_here_19 (by omega) rfl rfl rfl dX4_here_12 rfl ?_
    refine fV_aload_n (pc' := 16) G 0 dX4_here_15 rfl rfl rfl ?_
    refine fV_get (K := 4) (v := .int (i32 (I 214 7))) (pc' := 19) G kfX4_here_127 (by omega) rfl rfl rfl dX4_here_16 rfl ?_
    refine fV_iald (K := 7) (n := 160) (pc' := 20) G (by omega) rfl (fun _ _ => rfl) (by decide) (by omega) dX4_here_19 rfl ?_
    refine fV_goto (tgt := 24) G dX4_here_20 (by decide) ?_
    refine fV_iret G dX4_here_24 ?_
    exact fE_i (by unfold rdH rdh; split <;> first | rfl | omega)
set_option maxHeartbeats 4000000 in
set_option maxRecDepth 100000 in
theorem mX4_read (l : Launch) (Γ : fG) {N : Nat} (hN : 220 ≤ N) (I : fM) (P : fN) (hn : 0 ≤ I 214 6 ∧ I 214 6 ≤ 160) (hT : tOk (I 218) (I 214 6)) (he : 0 ≤ I 214 7 ∧ I 214 7 ≤ I 214 6) : fMet l yX4_read wsX4_read rmX4_read Γ N [.ref (Γ.1 214)] I P (fE none (rdS I) P) := by
  refine fMet_of (own := RX4) (cc := cX4_read) (maxL := 1) (ret := none) rfl (by decide +kernel) rfl (Nat.le_of_ble_eq_true rfl) ?_
  intro p e s m args below meth c G
  refine fV_lv (lv' := [(0, .ref (Γ.1 214))]) [0] rfl ?_
  have lpa : ∀ (z : Nat) (j : Int) (J : fM), I 214 7 ≤ j ∧ j ≤ I 214 6 → j ≤ tS (I 218) (I 214 6) (I 214 7) → rdO I J → J 214 11 = I 214 11 → J 214 7 = j → ((I 214 6 - j).toNat) = z → fV p l e rmX4_read s m args below meth c (MQ below (fQ Γ N (fE none (rdS I) P)) args s 0 0 (fA Γ N)) (fA Γ N) Γ N 1 0 0 J P 0 [(0, .ref (Γ.1 214))] [] := by
    intro z
    induction z using Nat.strongRecOn with
    | _ z ih_lpa =>
      intro j J hj hq hJo h11 h7 hz_lpa
      have hh := rdh_k hT (j := j) (by omega)
      refine fV_aload_n (pc' := 1) G 0 dX4_read_0 rfl rfl rfl ?_
      refine fV_callVf (st' := [.int (i32 (rdH J))]) (n := 0) (k := 214) (K := 4) (As := []) (rest := []) (pc' := 4) G (mX4_here l Γ hN J P (by rw [h7]; omega) (by rw [hJo.2 6 (by decide)]; omega)) kcX4_read_130 (by omega) rfl rfl rfl rfl (Nat.le_of_ble_eq_true rfl) (Nat.zero_le _) (Nat.zero_le _) dX4_read_1 rfl rfl ?_
      refine fV_top (b := rdh (I 218) (I 214 6) j) (by unfold rdH; rw [hJo.1 218 (by decide), hJo.2 6 (by decide), h7]) ?_
      refine fV_bipush (n := 32) (pc' := 6) G dX4_read_4 rfl rfl ?_
      refine fV_icmp_ne (tgt := 22) (pc' := 9) G dX4_read_6 (by decide) rfl (by omega) (by decide) (fun c101 => ?_) (fun c101 => ?_)
      · have hts : tS (I 218) (I 214 6) (I 214 7) = j := by rcases Int.lt_or_le j (I 214 6) with z9 | z9; exact isF_hit (sF_is (by omega)) (by omega) hq (by have := hh.2.2.2.2.2.2 z9; omega); have := isF_end (sF_is (c := fun i => I 218 i ≠ 32) (a := I 214 7) (b := I 214 6) (by omega)) hq (by omega); unfold tS; omega
        have htk : tK (I 218) (I 214 6) (I 214 7) = tKd (I 218) (I 214 6) j := by unfold tK; rw [hts]
        refine fV_aload_n (pc' := 23) G 0 dX4_read_22 rfl rfl rfl ?_
        refine fV_aload_n (pc' := 24) G 0 dX4_read_23 rfl rfl rfl ?_
        refine fV_get (K := 4) (v := .int (i32 (J 214 7))) (pc' := 27) G kfX4_read_127 (by omega) rfl rfl rfl dX4_read_24 rfl ?_
        refine fV_top (b := j) (by rw [h7]) ?_
        refine fV_put (K := 4) (jj := 8) (x := j) (v := .int (i32 j)) (ty := .int) (pc' := 30) G kfX4_read_134 (by omega) rfl rfl rfl kp4_8 rfl rfl (Nat.le_of_ble_eq_true rfl) dX4_read_27 rfl (fun I102 eI102 => ?_)
        have o_I102 : rdO I I102 := by rw [eI102]; exact rdO_up hJo (by decide)
        have f7_I102 : I102 214 7 = j := by rw [eI102, fup_j (by decide)]; exact h7
        have f11_I102 : I102 214 11 = I 214 11 := by rw [eI102, fup_j (by decide)]; exact h11
        have f8_I102 : I102 214 8 = j := by rw [eI102, fup_s]
        refine fV_aload_n (pc' := 31) G 0 dX4_read_30 rfl rfl rfl ?_
        refine fV_lconst (v := 0) (pc' := 32) G dX4_read_31 rfl rfl ?_
        refine fV_put (K := 4) (jj := 10) (x := 0) (v := .long (i64 0)) (ty := .long) (pc' := 35) G kfX4_read_137 (by omega) rfl rfl rfl kp4_10 rfl rfl (Nat.le_of_ble_eq_true rfl) dX4_read_32 rfl (fun I103 eI103 => ?_)
        have o_I103 : rdO I I103 := by rw [eI103]; exact rdO_up o_I102 (by decide)
        have f7_I103 : I103 214 7 = j := by rw [eI103, fup_j (by decide)]; exact f7_I102
        have f11_I103 : I103 214 11 = I 214 11 := by rw [eI103, fup_j (by decide)]; exact f11_I102
        have f8_I103 : I103 214 8 = j := by rw [eI103, fup_j (by decide)]; exact f8_I102
        have f10_I103 : I103 214 10 = 0 := by rw [eI103, fup_s]
        refine fV_aload_n (pc' := 36) G 0 dX4_read_35 rfl rfl rfl ?_
        refine fV_callVf (st' := [.int (i32 (rdH I103))]) (n := 0) (k := 214) (K := 4) (As := []) (rest := []) (pc' := 39) G (mX4_here l Γ hN I103 P (by rw [f7_I103]; omega) (by rw [o_I103.2 6 (by decide)]; omega)) kcX4_read_130 (by omega) rfl rfl rfl rfl (Nat.le_of_ble_eq_true rfl) (Nat.zero_le _) (Nat.zero_le _) dX4_read_36 rfl rfl ?_
        refine fV_top (b := rdh (I 218) (I 214 6) j) (by unfold rdH; rw [o_I103.1 218 (by decide), o_I103.2 6 (by decide), f7_I103]) ?_
        refine fV_i2l (pc' := 40) G dX4_read_39 rfl (by omega) ?_
        refine fV_ldc2 (a := 97) (pc' := 43) G klX4_read_141 rfl dX4_read_40 rfl ?_
        refine fV_ldc2 (a := 122) (pc' := 46) G klX4_read_143 rfl dX4_read_43 rfl ?_
        refine fV_callSf (st' := [.int (i32 (fB (sBetw (rdh (I 218) (I 214 6) j) 97 122)))]) (n := 3) (As := [.long (i64 (rdh (I 218) (I 214 6) j)), .long (i64 97), .long (i64 122)]) (rest := []) (pc' := 49) G (mX4_in l Γ hN I103 P (rdh (I 218) (I 214 6) j) 97 122 (by omega) (by omega) (by omega)) kcX4_read_33 rfl rfl (Nat.le_of_ble_eq_true rfl) (Nat.zero_le _) (Nat.zero_le _) dX4_read_46 rfl rfl ?_
        refine fV_ifeq_b (tgt := 128) (pc' := 52) G dX4_read_49 (by decide) rfl (fun c104 => ?_) (fun c104 => ?_)
        · have d104 : ¬ (97 ≤ (rdh (I 218) (I 214 6) j) ∧ (rdh (I 218) (I 214 6) j) ≤ 122) := of_decide_eq_false c104
          refine fV_aload_n (pc' := 129) G 0 dX4_read_128 rfl rfl rfl ?_
          refine fV_callVf (st' := [.int (i32 (rdH I103))]) (n := 0) (k := 214) (K := 4) (As := []) (rest := []) (pc' := 132) G (mX4_here l Γ hN I103 P (by rw [f7_I103]; omega) (by rw [o_I103.2 6 (by decide)]; omega)) kcX4_read_130 (by omega) rfl rfl rfl rfl (Nat.le_of_ble_eq_true rfl) (Nat.zero_le _) (Nat.zero_le _) dX4_read_129 rfl rfl ?_
          refine fV_top (b := rdh (I 218) (I 214 6) j) (by unfold rdH; rw [o_I103.1 218 (by decide), o_I103.2 6 (by decide), f7_I103]) ?_
          refine fV_i2l (pc' := 133) G dX4_read_132 rfl (by omega) ?_
          refine fV_ldc2 (a := 48) (pc' := 136) G klX4_read_150 rfl dX4_read_133 rfl ?_
          refine fV_ldc2 (a := 57) (pc' := 139) G klX4_read_152 rfl dX4_read_136 rfl ?_
          refine fV_callSf (st' := [.int (i32 (fB (sBetw (rdh (I 218) (I 214 6) j) 48 57)))]) (n := 3) (As := [.long (i64 (rdh (I 218) (I 214 6) j)), .long (i64 48), .long (i64 57)]) (rest := []) (pc' := 142) G (mX4_in l Γ hN I103 P (rdh (I 218) (I 214 6) j) 48 57 (by omega) (by omega) (by omega)) kcX4_read_33 rfl rfl (Nat.le_of_ble_eq_true rfl) (Nat.zero_le _) (Nat.zero_le _) dX4_read_139 rfl rfl ?_
          refine fV_ifeq_b (tgt := 254) (pc' := 145) G dX4_read_142 (by decide) rfl (fun c105 => ?_) (fun c105 => ?_)
          · have d105 : ¬ (48 ≤ (rdh (I 218) (I 214 6) j) ∧ (rdh (I 218) (I 214 6) j) ≤ 57) := of_decide_eq_false c105
            refine fV_aload_n (pc' := 255) G 0 dX4_read_254 rfl rfl rfl ?_
            refine fV_aload_n (pc' := 256) G 0 dX4_read_255 rfl rfl rfl ?_
            refine fV_callVf (st' := [.int (i32 (rdH I103)), .ref (Γ.1 214)]) (n := 0) (k := 214) (K := 4) (As := []) (rest := [.ref (Γ.1 214)]) (pc' := 259) G (mX4_here l Γ hN I103 P (by rw [f7_I103]; omega) (by rw [o_I103.2 6 (by decide)]; omega)) kcX4_read_130 (by omega) rfl rfl rfl rfl (Nat.le_of_ble_eq_true rfl) (Nat.zero_le _) (Nat.zero_le _) dX4_read_256 rfl rfl ?_
            refine fV_top (b := rdh (I 218) (I 214 6) j) (by unfold rdH; rw [o_I103.1 218 (by decide), o_I103.2 6 (by decide), f7_I103]) ?_
            refine fV_bipush (n := 59) (pc' := 261) G dX4_read_259 rfl rfl ?_
            refine fV_icmp_ne (tgt := 268) (pc' := 264) G dX4_read_261 (by decide) rfl (by omega) (by decide) (fun c106 => ?_) (fun c106 => ?_)
            · refine fV_aload_n (pc' := 269) G 0 dX4_read_268 rfl rfl rfl ?_
              refine fV_callVf (st' := [.int (i32 (rdH I103)), .ref (Γ.1 214)]) (n := 0) (k := 214) (K := 4) (As := []) (rest := [.ref (Γ.1 214)]) (pc' := 272) G (mX4_here l Γ hN I103 P (by rw [f7_I103]; omega) (by rw [o_I103.2 6 (by decide)]; omega)) kcX4_read_130 (by omega) rfl rfl rfl rfl (Nat.le_of_ble_eq_true rfl) (Nat.zero_le _) (Nat.zero_le _) dX4_read_269 rfl rfl ?_
              refine fV_top (b := rdh (I 218) (I 214 6) j) (by unfold rdH; rw [o_I103.1 218 (by decide), o_I103.2 6 (by decide), f7_I103]) ?_
              refine fV_if_ge (tgt := 279) (pc' := 275) G dX4_read_272 (by decide) rfl (by omega) (fun c107 => ?_) (fun c107 => ?_)
              · refine fV_iconst (pc' := 280) G dX4_read_279 rfl ?_
                refine fV_put (K := 4) (jj := 9) (x := 3) (v := .int (i32 3)) (ty := .int) (pc' := 283) G kfX4_read_145 (by omega) rfl rfl rfl kp4_9 rfl rfl (Nat.le_of_ble_eq_true rfl) dX4_read_280 rfl (fun I108 eI108 => ?_)
                have o_I108 : rdO I I108 := by rw [eI108]; exact rdO_up o_I103 (by decide)
                have f7_I108 : I108 214 7 = j := by rw [eI108, fup_j (by decide)]; exact f7_I103
                have f11_I108 : I108 214 11 = I 214 11 := by rw [eI108, fup_j (by decide)]; exact f11_I103
                have f8_I108 : I108 214 8 = j := by rw [eI108, fup_j (by decide)]; exact f8_I103
                have f10_I108 : I108 214 10 = 0 := by rw [eI108, fup_j (by decide)]; exact f10_I103
                have f9_I108 : I108 214 9 = 3 := by rw [eI108, fup_s]
                refine fV_aload_n (pc' := 284) G 0 dX4_read_283 rfl rfl rfl ?_
                refine fV_dup (pc' := 285) G dX4_read_284 rfl rfl ?_
                refine fV_get (K := 4) (v := .int (i32 (I108 214 7))) (pc' := 288) G kfX4_read_127 (by omega) rfl rfl rfl dX4_read_285 rfl ?_
                refine fV_top (b := j) (by rw [f7_I108]) ?_
                refine fV_aload_n (pc' := 289) G 0 dX4_read_288 rfl rfl rfl ?_
                refine fV_callVf (st' := [.int (i32 (rdH I108)), .int (i32 j), .ref (Γ.1 214)]) (n := 0) (k := 214) (K := 4) (As := []) (rest := [.int (i32 j), .ref (Γ.1 214)]) (pc' := 292) G (mX4_here l Γ hN I108 P (by rw [f7_I108]; omega) (by rw [o_I108.2 6 (by decide)]; omega)) kcX4_read_130 (by omega) rfl rfl rfl rfl (Nat.le_of_ble_eq_true rfl) (Nat.zero_le _) (Nat.zero_le _) dX4_read_289 rfl rfl ?_
                refine fV_top (b := rdh (I 218) (I 214 6) j) (by unfold rdH; rw [o_I108.1 218 (by decide), o_I108.2 6 (by decide), f7_I108]) ?_
                refine fV_if_ge (tgt := 299) (pc' := 295) G dX4_read_292 (by decide) rfl (by omega) (fun c109 => ?_) (fun c109 => ?_)
                · refine fV_iconst (pc' := 300) G dX4_read_299 rfl ?_
                  refine fV_iadd (pc' := 301) G dX4_read_300 rfl ?_
                  refine fV_put (K := 4) (jj := 7) (x := j + 1) (v := .int (i32 (j + 1))) (ty := .int) (pc' := 304) G kfX4_read_127 (by omega) rfl rfl rfl kp4_7 rfl rfl (Nat.le_of_ble_eq_true rfl) dX4_read_301 rfl (fun I110 eI110 => ?_)
                  have o_I110 : rdO I I110 := by rw [eI110]; exact rdO_up o_I108 (by decide)
                  have f11_I110 : I110 214 11 = I 214 11 := by rw [eI110, fup_j (by decide)]; exact f11_I108
                  have f8_I110 : I110 214 8 = j := by rw [eI110, fup_j (by decide)]; exact f8_I108
                  have f10_I110 : I110 214 10 = 0 := by rw [eI110, fup_j (by decide)]; exact f10_I108
                  have f9_I110 : I110 214 9 = 3 := by rw [eI110, fup_j (by decide)]; exact f9_I108
                  have f7_I110 : I110 214 7 = j + 1 := by rw [eI110, fup_s]
                  refine fV_vret G dX4_read_304 ?_
                  have hnk1 : ¬ tKd (I 218) (I 214 6) j = 1 := fun z => by have := hh.2.1.mp z; omega
                  have hnk2 : ¬ tKd (I 218) (I 214 6) j = 2 := fun z => by have := hh.2.2.1.mp z; omega
                  have hk3 := hh.2.2.2.1
                  have hk0 := hh.2.2.2.2.1
                  first | (exfalso; omega) | exact fE_vm (rdS_eq o_I110 f11_I110 (by rw [f7_I110]; unfold tE; rw [if_neg (by omega), hts, htk]; first | (rw [if_pos (by omega)]; done) | (rw [if_neg (by omega)]; omega)) (by rw [f8_I110, hts]) (by rw [f9_I110]; unfold rdK; rw [if_neg (by omega), if_neg (by omega), htk]; (repeat' split) <;> omega) (by rw [f10_I110]; unfold rdV; rw [if_neg (by omega), if_neg (by omega)])) rfl
                · refine fV_iconst (pc' := 296) G dX4_read_295 rfl ?_
                  refine fV_goto (tgt := 300) G dX4_read_296 (by decide) ?_
                  refine fV_iadd (pc' := 301) G dX4_read_300 rfl ?_
                  refine fV_put (K := 4) (jj := 7) (x := j + 0) (v := .int (i32 (j + 0))) (ty := .int) (pc' := 304) G kfX4_read_127 (by omega) rfl rfl rfl kp4_7 rfl rfl (Nat.le_of_ble_eq_true rfl) dX4_read_301 rfl (fun I110 eI110 => ?_)
                  have o_I110 : rdO I I110 := by rw [eI110]; exact rdO_up o_I108 (by decide)
                  have f11_I110 : I110 214 11 = I 214 11 := by rw [eI110, fup_j (by decide)]; exact f11_I108
                  have f8_I110 : I110 214 8 = j := by rw [eI110, fup_j (by decide)]; exact f8_I108
                  have f10_I110 : I110 214 10 = 0 := by rw [eI110, fup_j (by decide)]; exact f10_I108
                  have f9_I110 : I110 214 9 = 3 := by rw [eI110, fup_j (by decide)]; exact f9_I108
                  have f7_I110 : I110 214 7 = j + 0 := by rw [eI110, fup_s]
                  refine fV_vret G dX4_read_304 ?_
                  have hnk1 : ¬ tKd (I 218) (I 214 6) j = 1 := fun z => by have := hh.2.1.mp z; omega
                  have hnk2 : ¬ tKd (I 218) (I 214 6) j = 2 := fun z => by have := hh.2.2.1.mp z; omega
                  have hk3 := hh.2.2.2.1
                  have hk0 := hh.2.2.2.2.1
                  first | (exfalso; omega) | exact fE_vm (rdS_eq o_I110 f11_I110 (by rw [f7_I110]; unfold tE; rw [if_neg (by omega), hts, htk]; first | (rw [if_pos (by omega)]; done) | (rw [if_neg (by omega)]; omega)) (by rw [f8_I110, hts]) (by rw [f9_I110]; unfold rdK; rw [if_neg (by omega), if_neg (by omega), htk]; (repeat' split) <;> omega) (by rw [f10_I110]; unfold rdV; rw [if_neg (by omega), if_neg (by omega)])) rfl
              · refine fV_iconst (pc' := 276) G dX4_read_275 rfl ?_
                refine fV_goto (tgt := 280) G dX4_read_276 (by decide) ?_
                refine fV_put (K := 4) (jj := 9) (x := 4) (v := .int (i32 4)) (ty := .int) (pc' := 283) G kfX4_read_145 (by omega) rfl rfl rfl kp4_9 rfl rfl (Nat.le_of_ble_eq_true rfl) dX4_read_280 rfl (fun I108 eI108 => ?_)
                have o_I108 : rdO I I108 := by rw [eI108]; exact rdO_up o_I103 (by decide)
                have f7_I108 : I108 214 7 = j := by rw [eI108, fup_j (by decide)]; exact f7_I103
                have f11_I108 : I108 214 11 = I 214 11 := by rw [eI108, fup_j (by decide)]; exact f11_I103
                have f8_I108 : I108 214 8 = j := by rw [eI108, fup_j (by decide)]; exact f8_I103
                have f10_I108 : I108 214 10 = 0 := by rw [eI108, fup_j (by decide)]; exact f10_I103
                have f9_I108 : I108 214 9 = 4 := by rw [eI108, fup_s]
                refine fV_aload_n (pc' := 284) G 0 dX4_read_283 rfl rfl rfl ?_
                refine fV_dup (pc' := 285) G dX4_read_284 rfl rfl ?_
                refine fV_get (K := 4) (v := .int (i32 (I108 214 7))) (pc' := 288) G kfX4_read_127 (by omega) rfl rfl rfl dX4_read_285 rfl ?_
                refine fV_top (b := j) (by rw [f7_I108]) ?_
                refine fV_aload_n (pc' := 289) G 0 dX4_read_288 rfl rfl rfl ?_
                refine fV_callVf (st' := [.int (i32 (rdH I108)), .int (i32 j), .ref (Γ.1 214)]) (n := 0) (k := 214) (K := 4) (As := []) (rest := [.int (i32 j), .ref (Γ.1 214)]) (pc' := 292) G (mX4_here l Γ hN I108 P (by rw [f7_I108]; omega) (by rw [o_I108.2 6 (by decide)]; omega)) kcX4_read_130 (by omega) rfl rfl rfl rfl (Nat.le_of_ble_eq_true rfl) (Nat.zero_le _) (Nat.zero_le _) dX4_read_289 rfl rfl ?_
                refine fV_top (b := rdh (I 218) (I 214 6) j) (by unfold rdH; rw [o_I108.1 218 (by decide), o_I108.2 6 (by decide), f7_I108]) ?_
                refine fV_if_ge (tgt := 299) (pc' := 295) G dX4_read_292 (by decide) rfl (by omega) (fun c109 => ?_) (fun c109 => ?_)
                · refine fV_iconst (pc' := 300) G dX4_read_299 rfl ?_
                  refine fV_iadd (pc' := 301) G dX4_read_300 rfl ?_
                  refine fV_put (K := 4) (jj := 7) (x := j + 1) (v := .int (i32 (j + 1))) (ty := .int) (pc' := 304) G kfX4_read_127 (by omega) rfl rfl rfl kp4_7 rfl rfl (Nat.le_of_ble_eq_true rfl) dX4_read_301 rfl (fun I110 eI110 => ?_)
                  have o_I110 : rdO I I110 := by rw [eI110]; exact rdO_up o_I108 (by decide)
                  have f11_I110 : I110 214 11 = I 214 11 := by rw [eI110, fup_j (by decide)]; exact f11_I108
                  have f8_I110 : I110 214 8 = j := by rw [eI110, fup_j (by decide)]; exact f8_I108
                  have f10_I110 : I110 214 10 = 0 := by rw [eI110, fup_j (by decide)]; exact f10_I108
                  have f9_I110 : I110 214 9 = 4 := by rw [eI110, fup_j (by decide)]; exact f9_I108
                  have f7_I110 : I110 214 7 = j + 1 := by rw [eI110, fup_s]
                  refine fV_vret G dX4_read_304 ?_
                  have hnk1 : ¬ tKd (I 218) (I 214 6) j = 1 := fun z => by have := hh.2.1.mp z; omega
                  have hnk2 : ¬ tKd (I 218) (I 214 6) j = 2 := fun z => by have := hh.2.2.1.mp z; omega
                  have hk3 := hh.2.2.2.1
                  have hk0 := hh.2.2.2.2.1
                  first | (exfalso; omega) | exact fE_vm (rdS_eq o_I110 f11_I110 (by rw [f7_I110]; unfold tE; rw [if_neg (by omega), hts, htk]; first | (rw [if_pos (by omega)]; done) | (rw [if_neg (by omega)]; omega)) (by rw [f8_I110, hts]) (by rw [f9_I110]; unfold rdK; rw [if_neg (by omega), if_neg (by omega), htk]; (repeat' split) <;> omega) (by rw [f10_I110]; unfold rdV; rw [if_neg (by omega), if_neg (by omega)])) rfl
                · refine fV_iconst (pc' := 296) G dX4_read_295 rfl ?_
                  refine fV_goto (tgt := 300) G dX4_read_296 (by decide) ?_
                  refine fV_iadd (pc' := 301) G dX4_read_300 rfl ?_
                  refine fV_put (K := 4) (jj := 7) (x := j + 0) (v := .int (i32 (j + 0))) (ty := .int) (pc' := 304) G kfX4_read_127 (by omega) rfl rfl rfl kp4_7 rfl rfl (Nat.le_of_ble_eq_true rfl) dX4_read_301 rfl (fun I110 eI110 => ?_)
                  have o_I110 : rdO I I110 := by rw [eI110]; exact rdO_up o_I108 (by decide)
                  have f11_I110 : I110 214 11 = I 214 11 := by rw [eI110, fup_j (by decide)]; exact f11_I108
                  have f8_I110 : I110 214 8 = j := by rw [eI110, fup_j (by decide)]; exact f8_I108
                  have f10_I110 : I110 214 10 = 0 := by rw [eI110, fup_j (by decide)]; exact f10_I108
                  have f9_I110 : I110 214 9 = 4 := by rw [eI110, fup_j (by decide)]; exact f9_I108
                  have f7_I110 : I110 214 7 = j + 0 := by rw [eI110, fup_s]
                  refine fV_vret G dX4_read_304 ?_
                  have hnk1 : ¬ tKd (I 218) (I 214 6) j = 1 := fun z => by have := hh.2.1.mp z; omega
                  have hnk2 : ¬ tKd (I 218) (I 214 6) j = 2 := fun z => by have := hh.2.2.1.mp z; omega
                  have hk3 := hh.2.2.2.1
                  have hk0 := hh.2.2.2.2.1
                  first | (exfalso; omega) | exact fE_vm (rdS_eq o_I110 f11_I110 (by rw [f7_I110]; unfold tE; rw [if_neg (by omega), hts, htk]; first | (rw [if_pos (by omega)]; done) | (rw [if_neg (by omega)]; omega)) (by rw [f8_I110, hts]) (by rw [f9_I110]; unfold rdK; rw [if_neg (by omega), if_neg (by omega), htk]; (repeat' split) <;> omega) (by rw [f10_I110]; unfold rdV; rw [if_neg (by omega), if_neg (by omega)])) rfl
            · refine fV_iconst (pc' := 265) G dX4_read_264 rfl ?_
              refine fV_goto (tgt := 280) G dX4_read_265 (by decide) ?_
              refine fV_put (K := 4) (jj := 9) (x := 2) (v := .int (i32 2)) (ty := .int) (pc' := 283) G kfX4_read_145 (by omega) rfl rfl rfl kp4_9 rfl rfl (Nat.le_of_ble_eq_true rfl) dX4_read_280 rfl (fun I107 eI107 => ?_)
              have o_I107 : rdO I I107 := by rw [eI107]; exact rdO_up o_I103 (by decide)
              have f7_I107 : I107 214 7 = j := by rw [eI107, fup_j (by decide)]; exact f7_I103
              have f11_I107 : I107 214 11 = I 214 11 := by rw [eI107, fup_j (by decide)]; exact f11_I103
              have f8_I107 : I107 214 8 = j := by rw [eI107, fup_j (by decide)]; exact f8_I103
              have f10_I107 : I107 214 10 = 0 := by rw [eI107, fup_j (by decide)]; exact f10_I103
              have f9_I107 : I107 214 9 = 2 := by rw [eI107, fup_s]
              refine fV_aload_n (pc' := 284) G 0 dX4_read_283 rfl rfl rfl ?_
              refine fV_dup (pc' := 285) G dX4_read_284 rfl rfl ?_
              refine fV_get (K := 4) (v := .int (i32 (I107 214 7))) (pc' := 288) G kfX4_read_127 (by omega) rfl rfl rfl dX4_read_285 rfl ?_
              refine fV_top (b := j) (by rw [f7_I107]) ?_
              refine fV_aload_n (pc' := 289) G 0 dX4_read_288 rfl rfl rfl ?_
              refine fV_callVf (st' := [.int (i32 (rdH I107)), .int (i32 j), .ref (Γ.1 214)]) (n := 0) (k := 214) (K := 4) (As := []) (rest := [.int (i32 j), .ref (Γ.1 214)]) (pc' := 292) G (mX4_here l Γ hN I107 P (by rw [f7_I107]; omega) (by rw [o_I107.2 6 (by decide)]; omega)) kcX4_read_130 (by omega) rfl rfl rfl rfl (Nat.le_of_ble_eq_true rfl) (Nat.zero_le _) (Nat.zero_le _) dX4_read_289 rfl rfl ?_
              refine fV_top (b := rdh (I 218) (I 214 6) j) (by unfold rdH; rw [o_I107.1 218 (by decide), o_I107.2 6 (by decide), f7_I107]) ?_
              refine fV_if_ge (tgt := 299) (pc' := 295) G dX4_read_292 (by decide) rfl (by omega) (fun c108 => ?_) (fun c108 => ?_)
              · refine fV_iconst (pc' := 300) G dX4_read_299 rfl ?_
                refine fV_iadd (pc' := 301) G dX4_read_300 rfl ?_
                refine fV_put (K := 4) (jj := 7) (x := j + 1) (v := .int (i32 (j + 1))) (ty := .int) (pc' := 304) G kfX4_read_127 (by omega) rfl rfl rfl kp4_7 rfl rfl (Nat.le_of_ble_eq_true rfl) dX4_read_301 rfl (fun I109 eI109 => ?_)
                have o_I109 : rdO I I109 := by rw [eI109]; exact rdO_up o_I107 (by decide)
                have f11_I109 : I109 214 11 = I 214 11 := by rw [eI109, fup_j (by decide)]; exact f11_I107
                have f8_I109 : I109 214 8 = j := by rw [eI109, fup_j (by decide)]; exact f8_I107
                have f10_I109 : I109 214 10 = 0 := by rw [eI109, fup_j (by decide)]; exact f10_I107
                have f9_I109 : I109 214 9 = 2 := by rw [eI109, fup_j (by decide)]; exact f9_I107
                have f7_I109 : I109 214 7 = j + 1 := by rw [eI109, fup_s]
                refine fV_vret G dX4_read_304 ?_
                have hnk1 : ¬ tKd (I 218) (I 214 6) j = 1 := fun z => by have := hh.2.1.mp z; omega
                have hnk2 : ¬ tKd (I 218) (I 214 6) j = 2 := fun z => by have := hh.2.2.1.mp z; omega
                have hk3 := hh.2.2.2.1
                have hk0 := hh.2.2.2.2.1
                first | (exfalso; omega) | exact fE_vm (rdS_eq o_I109 f11_I109 (by rw [f7_I109]; unfold tE; rw [if_neg (by omega), hts, htk]; first | (rw [if_pos (by omega)]; done) | (rw [if_neg (by omega)]; omega)) (by rw [f8_I109, hts]) (by rw [f9_I109]; unfold rdK; rw [if_neg (by omega), if_neg (by omega), htk]; (repeat' split) <;> omega) (by rw [f10_I109]; unfold rdV; rw [if_neg (by omega), if_neg (by omega)])) rfl
              · refine fV_iconst (pc' := 296) G dX4_read_295 rfl ?_
                refine fV_goto (tgt := 300) G dX4_read_296 (by decide) ?_
                refine fV_iadd (pc' := 301) G dX4_read_300 rfl ?_
                refine fV_put (K := 4) (jj := 7) (x := j + 0) (v := .int (i32 (j + 0))) (ty := .int) (pc' := 304) G kfX4_read_127 (by omega) rfl rfl rfl kp4_7 rfl rfl (Nat.le_of_ble_eq_true rfl) dX4_read_301 rfl (fun I109 eI109 => ?_)
                have o_I109 : rdO I I109 := by rw [eI109]; exact rdO_up o_I107 (by decide)
                have f11_I109 : I109 214 11 = I 214 11 := by rw [eI109, fup_j (by decide)]; exact f11_I107
                have f8_I109 : I109 214 8 = j := by rw [eI109, fup_j (by decide)]; exact f8_I107
                have f10_I109 : I109 214 10 = 0 := by rw [eI109, fup_j (by decide)]; exact f10_I107
                have f9_I109 : I109 214 9 = 2 := by rw [eI109, fup_j (by decide)]; exact f9_I107
                have f7_I109 : I109 214 7 = j + 0 := by rw [eI109, fup_s]
                refine fV_vret G dX4_read_304 ?_
                have hnk1 : ¬ tKd (I 218) (I 214 6) j = 1 := fun z => by have := hh.2.1.mp z; omega
                have hnk2 : ¬ tKd (I 218) (I 214 6) j = 2 := fun z => by have := hh.2.2.1.mp z; omega
                have hk3 := hh.2.2.2.1
                have hk0 := hh.2.2.2.2.1
                first | (exfalso; omega) | exact fE_vm (rdS_eq o_I109 f11_I109 (by rw [f7_I109]; unfold tE; rw [if_neg (by omega), hts, htk]; first | (rw [if_pos (by omega)]; done) | (rw [if_neg (by omega)]; omega)) (by rw [f8_I109, hts]) (by rw [f9_I109]; unfold rdK; rw [if_neg (by omega), if_neg (by omega), htk]; (repeat' split) <;> omega) (by rw [f10_I109]; unfold rdV; rw [if_neg (by omega), if_neg (by omega)])) rfl
          · have d105 : (48 ≤ (rdh (I 218) (I 214 6) j) ∧ (rdh (I 218) (I 214 6) j) ≤ 57) := of_decide_eq_true c105
            have hk2 : tKd (I 218) (I 214 6) j = 2 := hh.2.2.1.mpr (by omega)
            have lpc : ∀ (z : Nat) (k : Int) (K : fM), j ≤ k ∧ k ≤ I 214 6 → k ≤ sF (fun i => tKd (I 218) (I 214 6) i ≠ tK (I 218) (I 214 6) (I 214 7)) j (I 214 6) → rdO I K → K 214 10 = rdD (I 218) j (k - j).toNat → K 214 7 = k → K 214 8 = j → K 214 11 = I 214 11 → ((I 214 6 - k).toNat) = z → fV p l e rmX4_read s m args below meth c (MQ below (fQ Γ N (fE none (rdS I) P)) args s 0 0 (fA Γ N)) (fA Γ N) Γ N 1 0 0 K P 145 [(0, .ref (Γ.1 214))] [] := by
              intro z
              induction z using Nat.strongRecOn with
              | _ z ih_lpc =>
                intro k K hk hq2 hKo h10 k7 k8 k11 hz_lpc
                have hhk := rdh_k hT (j := k) (by omega)
                have hrun : ∀ i : Int, j ≤ i → i < k → tKd (I 218) (I 214 6) i = tK (I 218) (I 214 6) (I 214 7) := fun i i0 i1 => Decidable.not_not.mp ((sF_is (c := (fun i => tKd (I 218) (I 214 6) i ≠ tK (I 218) (I 214 6) (I 214 7))) (a := j) (b := I 214 6) (by omega)).2.1 i i0 (by omega))
                refine fV_aload_n (pc' := 146) G 0 dX4_read_145 rfl rfl rfl ?_
                refine fV_callVf (st' := [.int (i32 (rdH K))]) (n := 0) (k := 214) (K := 4) (As := []) (rest := []) (pc' := 149) G (mX4_here l Γ hN K P (by rw [k7]; omega) (by rw [hKo.2 6 (by decide)]; omega)) kcX4_read_130 (by omega) rfl rfl rfl rfl (Nat.le_of_ble_eq_true rfl) (Nat.zero_le _) (Nat.zero_le _) dX4_read_146 rfl rfl ?_
                refine fV_top (b := rdh (I 218) (I 214 6) k) (by unfold rdH; rw [hKo.1 218 (by decide), hKo.2 6 (by decide), k7]) ?_
                refine fV_i2l (pc' := 150) G dX4_read_149 rfl (by omega) ?_
                refine fV_ldc2 (a := 48) (pc' := 153) G klX4_read_150 rfl dX4_read_150 rfl ?_
                refine fV_ldc2 (a := 57) (pc' := 156) G klX4_read_152 rfl dX4_read_153 rfl ?_
                refine fV_callSf (st' := [.int (i32 (fB (sBetw (rdh (I 218) (I 214 6) k) 48 57)))]) (n := 3) (As := [.long (i64 (rdh (I 218) (I 214 6) k)), .long (i64 48), .long (i64 57)]) (rest := []) (pc' := 159) G (mX4_in l Γ hN K P (rdh (I 218) (I 214 6) k) 48 57 (by omega) (by omega) (by omega)) kcX4_read_33 rfl rfl (Nat.le_of_ble_eq_true rfl) (Nat.zero_le _) (Nat.zero_le _) dX4_read_156 rfl rfl ?_
                refine fV_ifeq_b (tgt := 215) (pc' := 162) G dX4_read_159 (by decide) rfl (fun c206 => ?_) (fun c206 => ?_)
                · have d206 : ¬ (48 ≤ (rdh (I 218) (I 214 6) k) ∧ (rdh (I 218) (I 214 6) k) ≤ 57) := of_decide_eq_false c206
                  have hen : sF (fun i => tKd (I 218) (I 214 6) i ≠ tK (I 218) (I 214 6) (I 214 7)) j (I 214 6) = k := by rcases Int.lt_or_le k (I 214 6) with z9 | z9; exact isF_hit (sF_is (by omega)) (by omega) hq2 (fun z => by rw [htk, hk2] at z; have := hhk.2.2.1.mp z; omega); have := isF_end (sF_is (c := (fun i => tKd (I 218) (I 214 6) i ≠ tK (I 218) (I 214 6) (I 214 7))) (a := j) (b := I 214 6) (by omega)) hq2 (by omega); omega
                  have hte : tE (I 218) (I 214 6) (I 214 7) = k := by unfold tE; rw [if_pos (by omega), hts]; exact hen
                  have hjn : j < I 214 6 := (tKd_2 hk2).1
                  refine fV_aload_n (pc' := 216) G 0 dX4_read_215 rfl rfl rfl ?_
                  refine fV_aload_n (pc' := 217) G 0 dX4_read_216 rfl rfl rfl ?_
                  refine fV_get (K := 4) (v := .ref (Γ.1 218)) (pc' := 220) G kfX4_read_19 (by omega) rfl rfl rfl dX4_read_217 rfl ?_
                  refine fV_aload_n (pc' := 221) G 0 dX4_read_220 rfl rfl rfl ?_
                  refine fV_get (K := 4) (v := .int (i32 (K 214 8))) (pc' := 224) G kfX4_read_134 (by omega) rfl rfl rfl dX4_read_221 rfl ?_
                  refine fV_top (b := j) (by rw [k8]) ?_
                  refine fV_iald (K := 7) (n := 160) (pc' := 225) G (by omega) rfl (fun _ _ => rfl) (by decide) (by omega) dX4_read_224 rfl ?_
                  refine fV_top (b := I 218 j) (by rw [hKo.1 218 (by decide)]) ?_
                  have hjb := hT j (by omega) hjn
                  refine fV_bipush (n := 48) (pc' := 227) G dX4_read_225 rfl rfl ?_
                  refine fV_icmp_ne (tgt := 243) (pc' := 230) G dX4_read_227 (by decide) rfl (by omega) (by decide) (fun c207 => ?_) (fun c207 => ?_)
                  · refine fV_iconst (pc' := 244) G dX4_read_243 rfl ?_
                    refine fV_goto (tgt := 248) G dX4_read_244 (by decide) ?_
                    refine fV_put (K := 4) (jj := 9) (x := 1) (v := .int (i32 1)) (ty := .int) (pc' := 251) G kfX4_read_145 (by omega) rfl rfl rfl kp4_9 rfl rfl (Nat.le_of_ble_eq_true rfl) dX4_read_248 rfl (fun I208 eI208 => ?_)
                    have o_I208 : rdO I I208 := by rw [eI208]; exact rdO_up hKo (by decide)
                    have f7_I208 : I208 214 7 = k := by rw [eI208, fup_j (by decide)]; exact k7
                    have f8_I208 : I208 214 8 = j := by rw [eI208, fup_j (by decide)]; exact k8
                    have f11_I208 : I208 214 11 = I 214 11 := by rw [eI208, fup_j (by decide)]; exact k11
                    have f9_I208 : I208 214 9 = 1 := by rw [eI208, fup_s]
                    refine fV_goto (tgt := 304) G dX4_read_251 (by decide) ?_
                    refine fV_vret G dX4_read_304 ?_
                    exact fE_vm (rdS_eq o_I208 f11_I208 (by rw [f7_I208, hte]) (by rw [f8_I208, hts]) (by rw [f9_I208]; unfold rdK; rw [if_neg (by omega), if_pos (htk.trans hk2), hts, hte]; first | (rw [if_pos (by omega)]; done) | (rw [if_neg (by omega)]; done)) (by rw [eI208, fup_j (by decide), h10]; unfold rdV; rw [if_neg (by omega), if_pos (htk.trans hk2), hts, hte])) rfl
                  · refine fV_aload_n (pc' := 231) G 0 dX4_read_230 rfl rfl rfl ?_
                    refine fV_get (K := 4) (v := .int (i32 (K 214 7))) (pc' := 234) G kfX4_read_127 (by omega) rfl rfl rfl dX4_read_231 rfl ?_
                    refine fV_top (b := k) (by rw [k7]) ?_
                    refine fV_aload_n (pc' := 235) G 0 dX4_read_234 rfl rfl rfl ?_
                    refine fV_get (K := 4) (v := .int (i32 (K 214 8))) (pc' := 238) G kfX4_read_134 (by omega) rfl rfl rfl dX4_read_235 rfl ?_
                    refine fV_top (b := j) (by rw [k8]) ?_
                    refine fV_iconst (pc' := 239) G dX4_read_238 rfl ?_
                    refine fV_iadd (pc' := 240) G dX4_read_239 rfl ?_
                    refine fV_icmp_ne (tgt := 247) (pc' := 243) G dX4_read_240 (by decide) rfl (by omega) (by omega) (fun c208 => ?_) (fun c208 => ?_)
                    · refine fV_iconst (pc' := 248) G dX4_read_247 rfl ?_
                      refine fV_put (K := 4) (jj := 9) (x := 3) (v := .int (i32 3)) (ty := .int) (pc' := 251) G kfX4_read_145 (by omega) rfl rfl rfl kp4_9 rfl rfl (Nat.le_of_ble_eq_true rfl) dX4_read_248 rfl (fun I209 eI209 => ?_)
                      have o_I209 : rdO I I209 := by rw [eI209]; exact rdO_up hKo (by decide)
                      have f7_I209 : I209 214 7 = k := by rw [eI209, fup_j (by decide)]; exact k7
                      have f8_I209 : I209 214 8 = j := by rw [eI209, fup_j (by decide)]; exact k8
                      have f11_I209 : I209 214 11 = I 214 11 := by rw [eI209, fup_j (by decide)]; exact k11
                      have f9_I209 : I209 214 9 = 3 := by rw [eI209, fup_s]
                      refine fV_goto (tgt := 304) G dX4_read_251 (by decide) ?_
                      refine fV_vret G dX4_read_304 ?_
                      exact fE_vm (rdS_eq o_I209 f11_I209 (by rw [f7_I209, hte]) (by rw [f8_I209, hts]) (by rw [f9_I209]; unfold rdK; rw [if_neg (by omega), if_pos (htk.trans hk2), hts, hte]; first | (rw [if_pos (by omega)]; done) | (rw [if_neg (by omega)]; done)) (by rw [eI209, fup_j (by decide), h10]; unfold rdV; rw [if_neg (by omega), if_pos (htk.trans hk2), hts, hte])) rfl
                    · refine fV_iconst (pc' := 244) G dX4_read_243 rfl ?_
                      refine fV_goto (tgt := 248) G dX4_read_244 (by decide) ?_
                      refine fV_put (K := 4) (jj := 9) (x := 1) (v := .int (i32 1)) (ty := .int) (pc' := 251) G kfX4_read_145 (by omega) rfl rfl rfl kp4_9 rfl rfl (Nat.le_of_ble_eq_true rfl) dX4_read_248 rfl (fun I209 eI209 => ?_)
                      have o_I209 : rdO I I209 := by rw [eI209]; exact rdO_up hKo (by decide)
                      have f7_I209 : I209 214 7 = k := by rw [eI209, fup_j (by decide)]; exact k7
                      have f8_I209 : I209 214 8 = j := by rw [eI209, fup_j (by decide)]; exact k8
                      have f11_I209 : I209 214 11 = I 214 11 := by rw [eI209, fup_j (by decide)]; exact k11
                      have f9_I209 : I209 214 9 = 1 := by rw [eI209, fup_s]
                      refine fV_goto (tgt := 304) G dX4_read_251 (by decide) ?_
                      refine fV_vret G dX4_read_304 ?_
                      exact fE_vm (rdS_eq o_I209 f11_I209 (by rw [f7_I209, hte]) (by rw [f8_I209, hts]) (by rw [f9_I209]; unfold rdK; rw [if_neg (by omega), if_pos (htk.trans hk2), hts, hte]; first | (rw [if_pos (by omega)]; done) | (rw [if_neg (by omega)]; done)) (by rw [eI209, fup_j (by decide), h10]; unfold rdV; rw [if_neg (by omega), if_pos (htk.trans hk2), hts, hte])) rfl
                · have d206 : (48 ≤ (rdh (I 218) (I 214 6) k) ∧ (rdh (I 218) (I 214 6) k) ≤ 57) := of_decide_eq_true c206
                  have hke : tKd (I 218) (I 214 6) k = tK (I 218) (I 214 6) (I 214 7) := by rw [htk, hk2]; exact hhk.2.2.1.mpr (by omega)
                  have hkn : k < I 214 6 := by have := hhk.2.2.2.2.2.1; omega
                  have hkT := hhk.2.2.2.2.2.2 hkn
                  have hdb := rdD_b (T := I 218) (a := j) (k - j).toNat (fun i hi => (tKd_2 ((hrun _ (by omega) (by omega)).trans (htk.trans hk2))).2)
                  refine fV_aload_n (pc' := 163) G 0 dX4_read_162 rfl rfl rfl ?_
                  refine fV_aload_n (pc' := 164) G 0 dX4_read_163 rfl rfl rfl ?_
                  refine fV_get (K := 4) (v := .long (i64 (K 214 10))) (pc' := 167) G kfX4_read_137 (by omega) rfl rfl rfl dX4_read_164 rfl ?_
                  refine fV_ldc2 (a := 10000) (pc' := 170) G klX4_read_154 rfl dX4_read_167 rfl ?_
                  refine fV_lcmp (pc' := 171) G dX4_read_170 rfl (by omega) (by omega) ?_
                  refine fV_if_ge (tgt := 195) (pc' := 174) G dX4_read_171 (by decide) rfl (by unfold fcm; (split <;> first | omega | (split <;> omega))) (fun c207 => ?_) (fun c207 => ?_)
                  · unfold fcm at c207
                    have hwc : ¬ rdD (I 218) j (k - j).toNat < 10000 := by rw [h10] at c207; (repeat' split at c207) <;> omega
                    clear c207
                    refine fV_aload_n (pc' := 196) G 0 dX4_read_195 rfl rfl rfl ?_
                    refine fV_get (K := 4) (v := .long (i64 (K 214 10))) (pc' := 199) G kfX4_read_137 (by omega) rfl rfl rfl dX4_read_196 rfl ?_
                    refine fV_put (K := 4) (jj := 10) (x := K 214 10) (v := .long (i64 (K 214 10))) (ty := .long) (pc' := 202) G kfX4_read_137 (by omega) rfl rfl rfl kp4_10 rfl rfl (Nat.le_of_ble_eq_true rfl) dX4_read_199 rfl (fun I208 eI208 => ?_)
                    have h10n0 : I208 214 10 = rdD (I 218) j (k + 1 - j).toNat := by rw [eI208, fup_s, rdD_n (by omega), if_neg hwc]; omega
                    have o_I208 : rdO I I208 := by rw [eI208]; exact rdO_up hKo (by decide)
                    have f7_I208 : I208 214 7 = k := by rw [eI208, fup_j (by decide)]; exact k7
                    have f8_I208 : I208 214 8 = j := by rw [eI208, fup_j (by decide)]; exact k8
                    have f11_I208 : I208 214 11 = I 214 11 := by rw [eI208, fup_j (by decide)]; exact k11
                    refine fV_aload_n (pc' := 203) G 0 dX4_read_202 rfl rfl rfl ?_
                    refine fV_dup (pc' := 204) G dX4_read_203 rfl rfl ?_
                    refine fV_get (K := 4) (v := .int (i32 (I208 214 7))) (pc' := 207) G kfX4_read_127 (by omega) rfl rfl rfl dX4_read_204 rfl ?_
                    refine fV_top (b := k) (by rw [f7_I208]) ?_
                    refine fV_iconst (pc' := 208) G dX4_read_207 rfl ?_
                    refine fV_iadd (pc' := 209) G dX4_read_208 rfl ?_
                    refine fV_put (K := 4) (jj := 7) (x := k + 1) (v := .int (i32 (k + 1))) (ty := .int) (pc' := 212) G kfX4_read_127 (by omega) rfl rfl rfl kp4_7 rfl rfl (Nat.le_of_ble_eq_true rfl) dX4_read_209 rfl (fun I209 eI209 => ?_)
                    have o_I209 : rdO I I209 := by rw [eI209]; exact rdO_up o_I208 (by decide)
                    have f8_I209 : I209 214 8 = j := by rw [eI209, fup_j (by decide)]; exact f8_I208
                    have f11_I209 : I209 214 11 = I 214 11 := by rw [eI209, fup_j (by decide)]; exact f11_I208
                    have f7_I209 : I209 214 7 = k + 1 := by rw [eI209, fup_s]
                    have h10n : I209 214 10 = rdD (I 218) j (k + 1 - j).toNat := by rw [eI209, fup_j (by decide)]; exact h10n0
                    refine fV_goto (tgt := 145) G dX4_read_212 (by decide) ?_
                    exact ih_lpc _ (by omega) (k + 1) I209 (by omega) (isF_step (sF_is (by omega)) hq2 (by omega) (fun z => z hke)) o_I209 h10n f7_I209 f8_I209 f11_I209 rfl
                  · unfold fcm at c207
                    have hwc : rdD (I 218) j (k - j).toNat < 10000 := by rw [h10] at c207; (repeat' split at c207) <;> omega
                    clear c207
                    refine fV_ldc2 (a := 10) (pc' := 177) G klX4_read_156 rfl dX4_read_174 rfl ?_
                    refine fV_aload_n (pc' := 178) G 0 dX4_read_177 rfl rfl rfl ?_
                    refine fV_get (K := 4) (v := .long (i64 (K 214 10))) (pc' := 181) G kfX4_read_137 (by omega) rfl rfl rfl dX4_read_178 rfl ?_
                    refine fV_lmul (pc' := 182) G dX4_read_181 rfl ?_
                    refine fV_aload_n (pc' := 183) G 0 dX4_read_182 rfl rfl rfl ?_
                    refine fV_callVf (st' := [.int (i32 (rdH K)), .long (i64 (10 * (K 214 10))), .ref (Γ.1 214)]) (n := 0) (k := 214) (K := 4) (As := []) (rest := [.long (i64 (10 * (K 214 10))), .ref (Γ.1 214)]) (pc' := 186) G (mX4_here l Γ hN K P (by rw [k7]; omega) (by rw [hKo.2 6 (by decide)]; omega)) kcX4_read_130 (by omega) rfl rfl rfl rfl (Nat.le_of_ble_eq_true rfl) (Nat.zero_le _) (Nat.zero_le _) dX4_read_183 rfl rfl ?_
                    refine fV_top (b := rdh (I 218) (I 214 6) k) (by unfold rdH; rw [hKo.1 218 (by decide), hKo.2 6 (by decide), k7]) ?_
                    refine fV_i2l (pc' := 187) G dX4_read_186 rfl (by omega) ?_
                    refine fV_ladd (pc' := 188) G dX4_read_187 rfl ?_
                    refine fV_ldc2 (a := 48) (pc' := 191) G klX4_read_150 rfl dX4_read_188 rfl ?_
                    refine fV_lsub (pc' := 192) G dX4_read_191 rfl ?_
                    refine fV_goto (tgt := 199) G dX4_read_192 (by decide) ?_
                    refine fV_put (K := 4) (jj := 10) (x := ((10 * (K 214 10)) + (rdh (I 218) (I 214 6) k)) - 48) (v := .long (i64 (((10 * (K 214 10)) + (rdh (I 218) (I 214 6) k)) - 48))) (ty := .long) (pc' := 202) G kfX4_read_137 (by omega) rfl rfl rfl kp4_10 rfl rfl (Nat.le_of_ble_eq_true rfl) dX4_read_199 rfl (fun I208 eI208 => ?_)
                    have h10n0 : I208 214 10 = rdD (I 218) j (k + 1 - j).toNat := by rw [eI208, fup_s, rdD_n (by omega), if_pos hwc]; omega
                    have o_I208 : rdO I I208 := by rw [eI208]; exact rdO_up hKo (by decide)
                    have f7_I208 : I208 214 7 = k := by rw [eI208, fup_j (by decide)]; exact k7
                    have f8_I208 : I208 214 8 = j := by rw [eI208, fup_j (by decide)]; exact k8
                    have f11_I208 : I208 214 11 = I 214 11 := by rw [eI208, fup_j (by decide)]; exact k11
                    refine fV_aload_n (pc' := 203) G 0 dX4_read_202 rfl rfl rfl ?_
                    refine fV_dup (pc' := 204) G dX4_read_203 rfl rfl ?_
                    refine fV_get (K := 4) (v := .int (i32 (I208 214 7))) (pc' := 207) G kfX4_read_127 (by omega) rfl rfl rfl dX4_read_204 rfl ?_
                    refine fV_top (b := k) (by rw [f7_I208]) ?_
                    refine fV_iconst (pc' := 208) G dX4_read_207 rfl ?_
                    refine fV_iadd (pc' := 209) G dX4_read_208 rfl ?_
                    refine fV_put (K := 4) (jj := 7) (x := k + 1) (v := .int (i32 (k + 1))) (ty := .int) (pc' := 212) G kfX4_read_127 (by omega) rfl rfl rfl kp4_7 rfl rfl (Nat.le_of_ble_eq_true rfl) dX4_read_209 rfl (fun I209 eI209 => ?_)
                    have o_I209 : rdO I I209 := by rw [eI209]; exact rdO_up o_I208 (by decide)
                    have f8_I209 : I209 214 8 = j := by rw [eI209, fup_j (by decide)]; exact f8_I208
                    have f11_I209 : I209 214 11 = I 214 11 := by rw [eI209, fup_j (by decide)]; exact f11_I208
                    have f7_I209 : I209 214 7 = k + 1 := by rw [eI209, fup_s]
                    have h10n : I209 214 10 = rdD (I 218) j (k + 1 - j).toNat := by rw [eI209, fup_j (by decide)]; exact h10n0
                    refine fV_goto (tgt := 145) G dX4_read_212 (by decide) ?_
                    exact ih_lpc _ (by omega) (k + 1) I209 (by omega) (isF_step (sF_is (by omega)) hq2 (by omega) (fun z => z hke)) o_I209 h10n f7_I209 f8_I209 f11_I209 rfl
            refine fV_lv (lv' := [(0, .ref (Γ.1 214))]) [0] rfl ?_
            exact lpc _ j I103 (by omega) ((sF_is (by omega)).1.1) o_I103 (by rw [f10_I103, Int.sub_self]; rfl) f7_I103 f8_I103 f11_I103 rfl
        · have d104 : (97 ≤ (rdh (I 218) (I 214 6) j) ∧ (rdh (I 218) (I 214 6) j) ≤ 122) := of_decide_eq_true c104
          refine fV_aload_n (pc' := 53) G 0 dX4_read_52 rfl rfl rfl ?_
          refine fV_iconst (pc' := 54) G dX4_read_53 rfl ?_
          refine fV_put (K := 4) (jj := 9) (x := 0) (v := .int (i32 0)) (ty := .int) (pc' := 57) G kfX4_read_145 (by omega) rfl rfl rfl kp4_9 rfl rfl (Nat.le_of_ble_eq_true rfl) dX4_read_54 rfl (fun I105 eI105 => ?_)
          have o_I105 : rdO I I105 := by rw [eI105]; exact rdO_up o_I103 (by decide)
          have f7_I105 : I105 214 7 = j := by rw [eI105, fup_j (by decide)]; exact f7_I103
          have f11_I105 : I105 214 11 = I 214 11 := by rw [eI105, fup_j (by decide)]; exact f11_I103
          have f8_I105 : I105 214 8 = j := by rw [eI105, fup_j (by decide)]; exact f8_I103
          have f10_I105 : I105 214 10 = 0 := by rw [eI105, fup_j (by decide)]; exact f10_I103
          have f9_I105 : I105 214 9 = 0 := by rw [eI105, fup_s]
          have hk1 : tKd (I 218) (I 214 6) j = 1 := hh.2.1.mpr (by omega)
          have lpb : ∀ (z : Nat) (k : Int) (K : fM), j ≤ k ∧ k ≤ I 214 6 → k ≤ sF (fun i => tKd (I 218) (I 214 6) i ≠ tK (I 218) (I 214 6) (I 214 7)) j (I 214 6) → rdO I K → K 214 10 = rdW (I 218) j (k - j).toNat → K 214 7 = k → K 214 8 = j → K 214 9 = 0 → K 214 11 = I 214 11 → ((I 214 6 - k).toNat) = z → fV p l e rmX4_read s m args below meth c (MQ below (fQ Γ N (fE none (rdS I) P)) args s 0 0 (fA Γ N)) (fA Γ N) Γ N 1 0 0 K P 57 [(0, .ref (Γ.1 214))] [] := by
            intro z
            induction z using Nat.strongRecOn with
            | _ z ih_lpb =>
              intro k K hk hq2 hKo h10 k7 k8 k9 k11 hz_lpb
              have hhk := rdh_k hT (j := k) (by omega)
              have hrun : ∀ i : Int, j ≤ i → i < k → tKd (I 218) (I 214 6) i = tK (I 218) (I 214 6) (I 214 7) := fun i i0 i1 => Decidable.not_not.mp ((sF_is (c := (fun i => tKd (I 218) (I 214 6) i ≠ tK (I 218) (I 214 6) (I 214 7))) (a := j) (b := I 214 6) (by omega)).2.1 i i0 (by omega))
              refine fV_aload_n (pc' := 58) G 0 dX4_read_57 rfl rfl rfl ?_
              refine fV_callVf (st' := [.int (i32 (rdH K))]) (n := 0) (k := 214) (K := 4) (As := []) (rest := []) (pc' := 61) G (mX4_here l Γ hN K P (by rw [k7]; omega) (by rw [hKo.2 6 (by decide)]; omega)) kcX4_read_130 (by omega) rfl rfl rfl rfl (Nat.le_of_ble_eq_true rfl) (Nat.zero_le _) (Nat.zero_le _) dX4_read_58 rfl rfl ?_
              refine fV_top (b := rdh (I 218) (I 214 6) k) (by unfold rdH; rw [hKo.1 218 (by decide), hKo.2 6 (by decide), k7]) ?_
              refine fV_i2l (pc' := 62) G dX4_read_61 rfl (by omega) ?_
              refine fV_ldc2 (a := 97) (pc' := 65) G klX4_read_141 rfl dX4_read_62 rfl ?_
              refine fV_ldc2 (a := 122) (pc' := 68) G klX4_read_143 rfl dX4_read_65 rfl ?_
              refine fV_callSf (st' := [.int (i32 (fB (sBetw (rdh (I 218) (I 214 6) k) 97 122)))]) (n := 3) (As := [.long (i64 (rdh (I 218) (I 214 6) k)), .long (i64 97), .long (i64 122)]) (rest := []) (pc' := 71) G (mX4_in l Γ hN K P (rdh (I 218) (I 214 6) k) 97 122 (by omega) (by omega) (by omega)) kcX4_read_33 rfl rfl (Nat.le_of_ble_eq_true rfl) (Nat.zero_le _) (Nat.zero_le _) dX4_read_68 rfl rfl ?_
              refine fV_ifeq_b (tgt := 304) (pc' := 74) G dX4_read_71 (by decide) rfl (fun c206 => ?_) (fun c206 => ?_)
              · have d206 : ¬ (97 ≤ (rdh (I 218) (I 214 6) k) ∧ (rdh (I 218) (I 214 6) k) ≤ 122) := of_decide_eq_false c206
                have hen : sF (fun i => tKd (I 218) (I 214 6) i ≠ tK (I 218) (I 214 6) (I 214 7)) j (I 214 6) = k := by rcases Int.lt_or_le k (I 214 6) with z9 | z9; exact isF_hit (sF_is (by omega)) (by omega) hq2 (fun z => by rw [htk, hk1] at z; have := hhk.2.1.mp z; omega); have := isF_end (sF_is (c := (fun i => tKd (I 218) (I 214 6) i ≠ tK (I 218) (I 214 6) (I 214 7))) (a := j) (b := I 214 6) (by omega)) hq2 (by omega); omega
                have hte : tE (I 218) (I 214 6) (I 214 7) = k := by unfold tE; rw [if_pos (by omega), hts]; exact hen
                refine fV_vret G dX4_read_304 ?_
                exact fE_vm (rdS_eq hKo k11 (by rw [k7, hte]) (by rw [k8, hts]) (by rw [k9]; unfold rdK; rw [if_pos (htk.trans hk1)]) (by rw [h10]; unfold rdV; rw [if_pos (htk.trans hk1), hts, hte])) rfl
              · have d206 : (97 ≤ (rdh (I 218) (I 214 6) k) ∧ (rdh (I 218) (I 214 6) k) ≤ 122) := of_decide_eq_true c206
                have hke : tKd (I 218) (I 214 6) k = tK (I 218) (I 214 6) (I 214 7) := by rw [htk, hk1]; exact hhk.2.1.mpr (by omega)
                have hkn : k < I 214 6 := by have := hhk.2.2.2.2.2.1; omega
                have hkT := hhk.2.2.2.2.2.2 hkn
                have hlb9 := rdW_b (T := I 218) (a := j) (k - j).toNat (fun i hi => (tKd_1 ((hrun _ (by omega) (by omega)).trans (htk.trans hk1))).2)
                have hlb := hlb9.1
                have hlb2 := hlb9.2.1
                clear hlb9
                refine fV_aload_n (pc' := 75) G 0 dX4_read_74 rfl rfl rfl ?_
                refine fV_aload_n (pc' := 76) G 0 dX4_read_75 rfl rfl rfl ?_
                refine fV_get (K := 4) (v := .int (i32 (K 214 7))) (pc' := 79) G kfX4_read_127 (by omega) rfl rfl rfl dX4_read_76 rfl ?_
                refine fV_top (b := k) (by rw [k7]) ?_
                refine fV_aload_n (pc' := 80) G 0 dX4_read_79 rfl rfl rfl ?_
                refine fV_get (K := 4) (v := .int (i32 (K 214 8))) (pc' := 83) G kfX4_read_134 (by omega) rfl rfl rfl dX4_read_80 rfl ?_
                refine fV_top (b := j) (by rw [k8]) ?_
                refine fV_isub (pc' := 84) G dX4_read_83 rfl ?_
                refine fV_iconst (pc' := 85) G dX4_read_84 rfl ?_
                refine fV_icmp_ge (tgt := 111) (pc' := 88) G dX4_read_85 (by decide) rfl (by omega) (by decide) (fun c207 => ?_) (fun c207 => ?_)
                · refine fV_lconst (v := 0) (pc' := 112) G dX4_read_111 rfl rfl ?_
                  refine fV_put (K := 4) (jj := 10) (x := 0) (v := .long (i64 0)) (ty := .long) (pc' := 115) G kfX4_read_137 (by omega) rfl rfl rfl kp4_10 rfl rfl (Nat.le_of_ble_eq_true rfl) dX4_read_112 rfl (fun I208 eI208 => ?_)
                  have h10n0 : I208 214 10 = rdW (I 218) j (k + 1 - j).toNat := by rw [eI208, fup_s]; rw [rdW_g (by omega)]
                  have o_I208 : rdO I I208 := by rw [eI208]; exact rdO_up hKo (by decide)
                  have f7_I208 : I208 214 7 = k := by rw [eI208, fup_j (by decide)]; exact k7
                  have f8_I208 : I208 214 8 = j := by rw [eI208, fup_j (by decide)]; exact k8
                  have f9_I208 : I208 214 9 = 0 := by rw [eI208, fup_j (by decide)]; exact k9
                  have f11_I208 : I208 214 11 = I 214 11 := by rw [eI208, fup_j (by decide)]; exact k11
                  refine fV_aload_n (pc' := 116) G 0 dX4_read_115 rfl rfl rfl ?_
                  refine fV_dup (pc' := 117) G dX4_read_116 rfl rfl ?_
                  refine fV_get (K := 4) (v := .int (i32 (I208 214 7))) (pc' := 120) G kfX4_read_127 (by omega) rfl rfl rfl dX4_read_117 rfl ?_
                  refine fV_top (b := k) (by rw [f7_I208]) ?_
                  refine fV_iconst (pc' := 121) G dX4_read_120 rfl ?_
                  refine fV_iadd (pc' := 122) G dX4_read_121 rfl ?_
                  refine fV_put (K := 4) (jj := 7) (x := k + 1) (v := .int (i32 (k + 1))) (ty := .int) (pc' := 125) G kfX4_read_127 (by omega) rfl rfl rfl kp4_7 rfl rfl (Nat.le_of_ble_eq_true rfl) dX4_read_122 rfl (fun I209 eI209 => ?_)
                  have o_I209 : rdO I I209 := by rw [eI209]; exact rdO_up o_I208 (by decide)
                  have f8_I209 : I209 214 8 = j := by rw [eI209, fup_j (by decide)]; exact f8_I208
                  have f9_I209 : I209 214 9 = 0 := by rw [eI209, fup_j (by decide)]; exact f9_I208
                  have f11_I209 : I209 214 11 = I 214 11 := by rw [eI209, fup_j (by decide)]; exact f11_I208
                  have f7_I209 : I209 214 7 = k + 1 := by rw [eI209, fup_s]
                  have h10n : I209 214 10 = rdW (I 218) j (k + 1 - j).toNat := by rw [eI209, fup_j (by decide)]; exact h10n0
                  refine fV_goto (tgt := 57) G dX4_read_125 (by decide) ?_
                  exact ih_lpb _ (by omega) (k + 1) I209 (by omega) (isF_step (sF_is (by omega)) hq2 (by omega) (fun z => z hke)) o_I209 h10n f7_I209 f8_I209 f9_I209 f11_I209 rfl
                · refine fV_ldc2 (a := 27) (pc' := 91) G klX4_read_148 rfl dX4_read_88 rfl ?_
                  refine fV_aload_n (pc' := 92) G 0 dX4_read_91 rfl rfl rfl ?_
                  refine fV_get (K := 4) (v := .long (i64 (K 214 10))) (pc' := 95) G kfX4_read_137 (by omega) rfl rfl rfl dX4_read_92 rfl ?_
                  refine fV_lmul (pc' := 96) G dX4_read_95 rfl ?_
                  refine fV_aload_n (pc' := 97) G 0 dX4_read_96 rfl rfl rfl ?_
                  refine fV_callVf (st' := [.int (i32 (rdH K)), .long (i64 (27 * (K 214 10))), .ref (Γ.1 214)]) (n := 0) (k := 214) (K := 4) (As := []) (rest := [.long (i64 (27 * (K 214 10))), .ref (Γ.1 214)]) (pc' := 100) G (mX4_here l Γ hN K P (by rw [k7]; omega) (by rw [hKo.2 6 (by decide)]; omega)) kcX4_read_130 (by omega) rfl rfl rfl rfl (Nat.le_of_ble_eq_true rfl) (Nat.zero_le _) (Nat.zero_le _) dX4_read_97 rfl rfl ?_
                  refine fV_top (b := rdh (I 218) (I 214 6) k) (by unfold rdH; rw [hKo.1 218 (by decide), hKo.2 6 (by decide), k7]) ?_
                  refine fV_i2l (pc' := 101) G dX4_read_100 rfl (by omega) ?_
                  refine fV_ladd (pc' := 102) G dX4_read_101 rfl ?_
                  refine fV_ldc2 (a := 97) (pc' := 105) G klX4_read_141 rfl dX4_read_102 rfl ?_
                  refine fV_lsub (pc' := 106) G dX4_read_105 rfl ?_
                  refine fV_lconst (v := 1) (pc' := 107) G dX4_read_106 rfl rfl ?_
                  refine fV_ladd (pc' := 108) G dX4_read_107 rfl ?_
                  refine fV_goto (tgt := 112) G dX4_read_108 (by decide) ?_
                  refine fV_put (K := 4) (jj := 10) (x := (((27 * (K 214 10)) + (rdh (I 218) (I 214 6) k)) - 97) + 1) (v := .long (i64 ((((27 * (K 214 10)) + (rdh (I 218) (I 214 6) k)) - 97) + 1))) (ty := .long) (pc' := 115) G kfX4_read_137 (by omega) rfl rfl rfl kp4_10 rfl rfl (Nat.le_of_ble_eq_true rfl) dX4_read_112 rfl (fun I208 eI208 => ?_)
                  have h10n0 : I208 214 10 = rdW (I 218) j (k + 1 - j).toNat := by rw [eI208, fup_s]; rw [rdW_n (by omega) (by omega)]; omega
                  have o_I208 : rdO I I208 := by rw [eI208]; exact rdO_up hKo (by decide)
                  have f7_I208 : I208 214 7 = k := by rw [eI208, fup_j (by decide)]; exact k7
                  have f8_I208 : I208 214 8 = j := by rw [eI208, fup_j (by decide)]; exact k8
                  have f9_I208 : I208 214 9 = 0 := by rw [eI208, fup_j (by decide)]; exact k9
                  have f11_I208 : I208 214 11 = I 214 11 := by rw [eI208, fup_j (by decide)]; exact k11
                  refine fV_aload_n (pc' := 116) G 0 dX4_read_115 rfl rfl rfl ?_
                  refine fV_dup (pc' := 117) G dX4_read_116 rfl rfl ?_
                  refine fV_get (K := 4) (v := .int (i32 (I208 214 7))) (pc' := 120) G kfX4_read_127 (by omega) rfl rfl rfl dX4_read_117 rfl ?_
                  refine fV_top (b := k) (by rw [f7_I208]) ?_
                  refine fV_iconst (pc' := 121) G dX4_read_120 rfl ?_
                  refine fV_iadd (pc' := 122) G dX4_read_121 rfl ?_
                  refine fV_put (K := 4) (jj := 7) (x := k + 1) (v := .int (i32 (k + 1))) (ty := .int) (pc' := 125) G kfX4_read_127 (by omega) rfl rfl rfl kp4_7 rfl rfl (Nat.le_of_ble_eq_true rfl) dX4_read_122 rfl (fun I209 eI209 => ?_)
                  have o_I209 : rdO I I209 := by rw [eI209]; exact rdO_up o_I208 (by decide)
                  have f8_I209 : I209 214 8 = j := by rw [eI209, fup_j (by decide)]; exact f8_I208
                  have f9_I209 : I209 214 9 = 0 := by rw [eI209, fup_j (by decide)]; exact f9_I208
                  have f11_I209 : I209 214 11 = I 214 11 := by rw [eI209, fup_j (by decide)]; exact f11_I208
                  have f7_I209 : I209 214 7 = k + 1 := by rw [eI209, fup_s]
                  have h10n : I209 214 10 = rdW (I 218) j (k + 1 - j).toNat := by rw [eI209, fup_j (by decide)]; exact h10n0
                  refine fV_goto (tgt := 57) G dX4_read_125 (by decide) ?_
                  exact ih_lpb _ (by omega) (k + 1) I209 (by omega) (isF_step (sF_is (by omega)) hq2 (by omega) (fun z => z hke)) o_I209 h10n f7_I209 f8_I209 f9_I209 f11_I209 rfl
          refine fV_lv (lv' := [(0, .ref (Γ.1 214))]) [0] rfl ?_
          exact lpb _ j I105 (by omega) ((sF_is (by omega)).1.1) o_I105 (by rw [f10_I105, Int.sub_self]; rfl) f7_I105 f8_I105 f9_I105 f11_I105 rfl
      · have hjn : j < I 214 6 := by have := hh.2.2.2.2.2.1; omega
        have hjT := hh.2.2.2.2.2.2 hjn
        refine fV_aload_n (pc' := 10) G 0 dX4_read_9 rfl rfl rfl ?_
        refine fV_dup (pc' := 11) G dX4_read_10 rfl rfl ?_
        refine fV_get (K := 4) (v := .int (i32 (J 214 7))) (pc' := 14) G kfX4_read_127 (by omega) rfl rfl rfl dX4_read_11 rfl ?_
        refine fV_top (b := j) (by rw [h7]) ?_
        refine fV_iconst (pc' := 15) G dX4_read_14 rfl ?_
        refine fV_iadd (pc' := 16) G dX4_read_15 rfl ?_
        refine fV_put (K := 4) (jj := 7) (x := j + 1) (v := .int (i32 (j + 1))) (ty := .int) (pc' := 19) G kfX4_read_127 (by omega) rfl rfl rfl kp4_7 rfl rfl (Nat.le_of_ble_eq_true rfl) dX4_read_16 rfl (fun I102 eI102 => ?_)
        have o_I102 : rdO I I102 := by rw [eI102]; exact rdO_up hJo (by decide)
        have f11_I102 : I102 214 11 = I 214 11 := by rw [eI102, fup_j (by decide)]; exact h11
        have f7_I102 : I102 214 7 = j + 1 := by rw [eI102, fup_s]
        refine fV_goto (tgt := 0) G dX4_read_19 (by decide) ?_
        exact ih_lpa _ (by omega) (j + 1) I102 (by omega) (isF_step (sF_is (by omega)) hq (by omega) (fun z => z (by omega))) o_I102 f11_I102 f7_I102 rfl
  refine fV_lv (lv' := [(0, .ref (Γ.1 214))]) [0] rfl ?_
  exact lpa _ (I 214 7) I (by omega) ((sF_is (by omega)).1.1) (rdO_r I) rfl rfl rfl
