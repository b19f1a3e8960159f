/-! CONTRACTS 17: Long.bitCount, filled (rows laid by wip/whole/gen/con17.py) -/
set_option maxHeartbeats 4000000 in
set_option maxRecDepth 100000 in
theorem mJ13_bitCount_95d88 (l : Launch) (Γ : fG) {N : Nat} (hN : 214 ≤ N) (I : fM) (P : fN) (n : Nat) (hn : n < 2 ^ 40) : fMet l yJ13_bitCount_95d88 wsJ13_bitCount_95d88 rmJ13_bitCount_95d88 Γ N [.long (lN n)] I P (fE (some (.int (i32 ((nG n % 128 : Nat) : Int)))) I P) := by
  refine fMet_of (own := RJ13) (cc := cJ13_bitCount_95d88) (maxL := 2) (ret := (some .int)) rfl (by decide +kernel) rfl (Nat.le_of_ble_eq_true rfl) ?_
  intro p e s m args below meth c G
  have hn5 := n5_of hn
  have hb := nB_5 (a := n % 256) (b := n / 256 % 256) (c := n / 65536 % 256) (d := n / 16777216 % 256) (f := n / 4294967296) (by omega) (by omega) (by omega) (by omega) (by omega)
  rw [← hn5] at hb
  have hle := hb.2
  have hnB : nB n < 2 ^ 40 := by unfold nB; omega
  have hnC : nC n < 2 ^ 42 := by unfold nC; have z1 := @Nat.and_le_left (nB n) 3689348814741910323; have z2 := @Nat.and_le_left (nB n / 4) 3689348814741910323; omega
  have hnD : nD n < 2 ^ 43 := by unfold nD; have z1 := @Nat.and_le_left (nC n + nC n / 16) 1085102592571150095; omega
  have hnE : nE n < 2 ^ 44 := by unfold nE; omega
  have hnF : nF n < 2 ^ 45 := by unfold nF; omega
  refine fV_lv (lv' := [(0, .long (lN n))]) [0] rfl ?_
  refine fV_lload_n (pc' := 1) G 0 dJ13_bitCount_95d88_0 rfl rfl rfl ?_
  refine fV_lload_n (pc' := 2) G 0 dJ13_bitCount_95d88_1 rfl rfl rfl ?_
  refine fV_iconst (pc' := 3) G dJ13_bitCount_95d88_2 rfl ?_
  refine fV_nlshr (j := 1) (pc' := 4) G rfl (by have := hn; omega) (by decide) dJ13_bitCount_95d88_3 rfl ?_
  refine fV_ldc2 (a := 6148914691236517205) (pc' := 7) G kl_bc314 rfl dJ13_bitCount_95d88_4 rfl ?_
  refine fV_st (st' := [.long (lN 6148914691236517205), .long (lN (n / 2)), .long (lN n)]) rfl ?_
  refine fV_nland (pc' := 8) G (by have := hn; omega) (by decide) dJ13_bitCount_95d88_7 rfl ?_
  refine fV_nlsub (pc' := 9) G hle dJ13_bitCount_95d88_8 rfl ?_
  refine fV_st (st' := [.long (lN (nB n))]) rfl ?_
  refine fV_lstore_n (lv' := [(0, .long (lN (nB n)))]) (pc' := 10) G dJ13_bitCount_95d88_9 rfl (by decide) rfl rfl ?_
  refine fV_lload_n (pc' := 11) G 0 dJ13_bitCount_95d88_10 rfl rfl rfl ?_
  refine fV_ldc2 (a := 3689348814741910323) (pc' := 14) G kl_bc316 rfl dJ13_bitCount_95d88_11 rfl ?_
  refine fV_st (st' := [.long (lN 3689348814741910323), .long (lN (nB n))]) rfl ?_
  refine fV_nland (pc' := 15) G (by have := hnB; omega) (by decide) dJ13_bitCount_95d88_14 rfl ?_
  refine fV_lload_n (pc' := 16) G 0 dJ13_bitCount_95d88_15 rfl rfl rfl ?_
  refine fV_iconst (pc' := 17) G dJ13_bitCount_95d88_16 rfl ?_
  refine fV_nlshr (j := 2) (pc' := 18) G rfl (by have := hnB; omega) (by decide) dJ13_bitCount_95d88_17 rfl ?_
  refine fV_ldc2 (a := 3689348814741910323) (pc' := 21) G kl_bc316 rfl dJ13_bitCount_95d88_18 rfl ?_
  refine fV_st (st' := [.long (lN 3689348814741910323), .long (lN ((nB n) / 4)), .long (lN ((nB n) &&& 3689348814741910323))]) rfl ?_
  refine fV_nland (pc' := 22) G (by have := hnB; omega) (by decide) dJ13_bitCount_95d88_21 rfl ?_
  refine fV_nladd (pc' := 23) G dJ13_bitCount_95d88_22 rfl ?_
  refine fV_st (st' := [.long (lN (nC n))]) rfl ?_
  refine fV_lstore_n (lv' := [(0, .long (lN (nC n)))]) (pc' := 24) G dJ13_bitCount_95d88_23 rfl (by decide) rfl rfl ?_
  refine fV_lload_n (pc' := 25) G 0 dJ13_bitCount_95d88_24 rfl rfl rfl ?_
  refine fV_lload_n (pc' := 26) G 0 dJ13_bitCount_95d88_25 rfl rfl rfl ?_
  refine fV_iconst (pc' := 27) G dJ13_bitCount_95d88_26 rfl ?_
  refine fV_nlshr (j := 4) (pc' := 28) G rfl (by have := hnC; omega) (by decide) dJ13_bitCount_95d88_27 rfl ?_
  refine fV_nladd (pc' := 29) G dJ13_bitCount_95d88_28 rfl ?_
  refine fV_ldc2 (a := 1085102592571150095) (pc' := 32) G kl_bc318 rfl dJ13_bitCount_95d88_29 rfl ?_
  refine fV_st (st' := [.long (lN 1085102592571150095), .long (lN ((nC n) + ((nC n) / 16)))]) rfl ?_
  refine fV_nland (pc' := 33) G (by have := hnC; omega) (by decide) dJ13_bitCount_95d88_32 rfl ?_
  refine fV_st (st' := [.long (lN (nD n))]) rfl ?_
  refine fV_lstore_n (lv' := [(0, .long (lN (nD n)))]) (pc' := 34) G dJ13_bitCount_95d88_33 rfl (by decide) rfl rfl ?_
  refine fV_lload_n (pc' := 35) G 0 dJ13_bitCount_95d88_34 rfl rfl rfl ?_
  refine fV_lload_n (pc' := 36) G 0 dJ13_bitCount_95d88_35 rfl rfl rfl ?_
  refine fV_bipush (n := 8) (pc' := 38) G dJ13_bitCount_95d88_36 rfl rfl ?_
  refine fV_nlshr (j := 8) (pc' := 39) G rfl (by have := hnD; omega) (by decide) dJ13_bitCount_95d88_38 rfl ?_
  refine fV_nladd (pc' := 40) G dJ13_bitCount_95d88_39 rfl ?_
  refine fV_st (st' := [.long (lN (nE n))]) rfl ?_
  refine fV_lstore_n (lv' := [(0, .long (lN (nE n)))]) (pc' := 41) G dJ13_bitCount_95d88_40 rfl (by decide) rfl rfl ?_
  refine fV_lload_n (pc' := 42) G 0 dJ13_bitCount_95d88_41 rfl rfl rfl ?_
  refine fV_lload_n (pc' := 43) G 0 dJ13_bitCount_95d88_42 rfl rfl rfl ?_
  refine fV_bipush (n := 16) (pc' := 45) G dJ13_bitCount_95d88_43 rfl rfl ?_
  refine fV_nlshr (j := 16) (pc' := 46) G rfl (by have := hnE; omega) (by decide) dJ13_bitCount_95d88_45 rfl ?_
  refine fV_nladd (pc' := 47) G dJ13_bitCount_95d88_46 rfl ?_
  refine fV_st (st' := [.long (lN (nF n))]) rfl ?_
  refine fV_lstore_n (lv' := [(0, .long (lN (nF n)))]) (pc' := 48) G dJ13_bitCount_95d88_47 rfl (by decide) rfl rfl ?_
  refine fV_lload_n (pc' := 49) G 0 dJ13_bitCount_95d88_48 rfl rfl rfl ?_
  refine fV_lload_n (pc' := 50) G 0 dJ13_bitCount_95d88_49 rfl rfl rfl ?_
  refine fV_bipush (n := 32) (pc' := 52) G dJ13_bitCount_95d88_50 rfl rfl ?_
  refine fV_nlshr (j := 32) (pc' := 53) G rfl (by have := hnF; omega) (by decide) dJ13_bitCount_95d88_52 rfl ?_
  refine fV_nladd (pc' := 54) G dJ13_bitCount_95d88_53 rfl ?_
  refine fV_st (st' := [.long (lN (nG n))]) rfl ?_
  refine fV_lstore_n (lv' := [(0, .long (lN (nG n)))]) (pc' := 55) G dJ13_bitCount_95d88_54 rfl (by decide) rfl rfl ?_
  refine fV_lload_n (pc' := 56) G 0 dJ13_bitCount_95d88_55 rfl rfl rfl ?_
  refine fV_nl2i (pc' := 57) G dJ13_bitCount_95d88_56 rfl ?_
  refine fV_bipush (n := 127) (pc' := 59) G dJ13_bitCount_95d88_57 rfl rfl ?_
  refine fV_iand (pc' := 60) G dJ13_bitCount_95d88_59 rfl ?_
  refine fV_iret G dJ13_bitCount_95d88_60 ?_
  exact ⟨by rw [and_127], rfl, rfl⟩
set_option maxHeartbeats 4000000 in
set_option maxRecDepth 100000 in
theorem mX3_filled (l : Launch) (Γ : fG) {N : Nat} (hN : 214 ≤ N) (I : fM) (P : fN) (hx : xAll I P) (f : Int) (h_f : -2147483648 ≤ f ∧ f ≤ 2147483647) : fMet l yX3_filled wsX3_filled rmX3_filled Γ N [.ref (Γ.1 0), .int (i32 f)] I P (fE (some (.int (i32 (qXFilled I P f)))) I P) := by
  refine fMet_of (own := RX3) (cc := cX3_filled) (maxL := 4) (ret := (some .int)) rfl (by decide +kernel) rfl (Nat.le_of_ble_eq_true rfl) ?_
  intro p e s m args below meth c G
  have ho := xAll_ok hx
  obtain ⟨hv, hp, hww, hst, htl⟩ := id ho
  obtain ⟨hv1, hv3, hv4, hvs⟩ := id hv
  obtain ⟨⟨-, -, hdi⟩, hpa, hhs, hhist, -, -⟩ := id hx
  have hz1 : ∀ w : Int, 0 ≤ w → w < I 1 1 → I (P (1 + 1) w) 6 = 0 ∨ I (P (1 + 1) w) 6 = 1 := fun w h0 h1 => (hww w h0 h1).2.2.2.2.2.1
  refine fV_lv (lv' := [(0, .ref (Γ.1 0)), (1, .int (i32 f))]) [0, 1] rfl ?_
  refine fV_iload_n (pc' := 1) G 1 dX3_filled_0 rfl rfl rfl ?_
  refine fV_callSf (st' := [.int (i32 (fB (sBetw f 0 4000)))]) (n := 1) (As := [.int (i32 f)]) (rest := []) (pc' := 4) G (mX3_isAskedFrame l Γ hN I P f (by omega)) kcX3_filled_164 rfl rfl (Nat.le_of_ble_eq_true rfl) (Nat.zero_le _) (Nat.zero_le _) dX3_filled_1 rfl rfl ?_
  refine fV_ifne_b (tgt := 10) (pc' := 7) G dX3_filled_4 (by decide) rfl (fun c1 => ?_) (fun c1 => ?_)
  · have d1 : (0 ≤ f ∧ f ≤ 4000) := of_decide_eq_true c1
    refine fV_iconst (pc' := 11) G dX3_filled_10 rfl ?_
    refine fV_istore_n (lv' := [(2, .int (i32 0)), (0, .ref (Γ.1 0)), (1, .int (i32 f))]) (pc' := 12) G dX3_filled_11 rfl (by decide) rfl rfl ?_
    refine fV_iconst (pc' := 13) G dX3_filled_12 rfl ?_
    refine fV_istore_n (lv' := [(3, .int (i32 0)), (2, .int (i32 0)), (0, .ref (Γ.1 0)), (1, .int (i32 f))]) (pc' := 14) G dX3_filled_13 rfl (by decide) rfl rfl ?_
    have lp : ∀ (z : Nat) (row : Int) (q : Int), 0 ≤ row ∧ row ≤ 8 → q = sSum (fun row => sPop (xCell I P 1 row f)) row → ((8 - row).toNat) = z → fV p l e rmX3_filled s m args below meth c (MQ below (fQ Γ N (fE (some (.int (i32 (qXFilled I P f)))) I P)) args s 0 0 (fA Γ N)) (fA Γ N) Γ N 4 0 0 I P 14 [(0, .ref (Γ.1 0)), (1, .int (i32 f)), (2, .int (i32 q)), (3, .int (i32 row))] [] := by
      intro z
      induction z using Nat.strongRecOn with
      | _ z ih_lp =>
        intro row q hrow hq hz_lp
        refine fV_iload_n (pc' := 15) G 3 dX3_filled_14 rfl rfl rfl ?_
        refine fV_bipush (n := 8) (pc' := 17) G dX3_filled_15 rfl rfl ?_
        refine fV_icmp_ge (tgt := 41) (pc' := 20) G dX3_filled_17 (by decide) rfl (by omega) (by decide) (fun c102 => ?_) (fun c102 => ?_)
        · refine fV_iload_n (pc' := 42) G 2 dX3_filled_41 rfl rfl rfl ?_
          refine fV_iret G dX3_filled_42 ?_
          exact fE_i (by unfold qXFilled; rw [if_pos (by omega), hq, show row = 8 by omega])
        · refine fV_iload_n (pc' := 21) G 2 dX3_filled_20 rfl rfl rfl ?_
          refine fV_aload_n (pc' := 22) G 0 dX3_filled_21 rfl rfl rfl ?_
          refine fV_get (K := 3) (v := .ref (Γ.1 1)) (pc' := 25) G kfX3_filled_10 (by omega) rfl rfl rfl dX3_filled_22 rfl ?_
          refine fV_iload_n (pc' := 26) G 3 dX3_filled_25 rfl rfl rfl ?_
          refine fV_iload_n (pc' := 27) G 1 dX3_filled_26 rfl rfl rfl ?_
          refine fV_callV (n := 2) (k := 1) (K := 0) (As := [.int (i32 row), .int (i32 f)]) (rest := [.int (i32 q)]) (pc' := 30) G (mX0_cellsInRow l Γ hN I P fSc_1 hv hp hww row f (by omega) (by omega)) kcX3_filled_192 (by omega) rfl rfl rfl rfl (Nat.le_of_ble_eq_true rfl) (Nat.zero_le _) (Nat.zero_le _) dX3_filled_27 rfl (fun v103 I104 P105 h106 => ?_)
          obtain ⟨L, h106v, hL, eI104, eP105⟩ := h106
          obtain ⟨n, hn, hLn, hpop⟩ := sPop_is hL (fun j hj z => by have := z.1; omega)
          refine fV_mem (I' := I) (P' := P) eI104 eP105 ?_
          refine fV_st (st' := [.long (lN n), .int (i32 q)]) (by rw [h106v, hLn]; rfl) ?_
          refine fV_callFf (n := 1) (As := [.long (lN n)]) (rest := [.int (i32 q)]) (pc' := 33) (st' := [.int (i32 (sPop (xCell I P 1 row f))), .int (i32 q)]) G (mJ13_bitCount_95d88 l Γ hN I P n hn) kcX3_filled_196 rfl rfl (Nat.le_of_ble_eq_true rfl) (Nat.zero_le _) (Nat.zero_le _) dX3_filled_30 rfl (by rw [hpop]; rfl) ?_
          refine fV_iadd (pc' := 34) G dX3_filled_33 rfl ?_
          refine fV_istore_n (lv' := [(2, .int (i32 (q + (sPop (xCell I P 1 row f))))), (0, .ref (Γ.1 0)), (1, .int (i32 f)), (3, .int (i32 row))]) (pc' := 35) G dX3_filled_34 rfl (by decide) rfl rfl ?_
          refine fV_iinc (lv' := [(3, .int (i32 (row + 1))), (2, .int (i32 (q + (sPop (xCell I P 1 row f))))), (0, .ref (Γ.1 0)), (1, .int (i32 f))]) (pc' := 38) G 3 dX3_filled_35 rfl (by decide) rfl rfl ?_
          refine fV_goto (tgt := 14) G dX3_filled_38 (by decide) ?_
          refine fV_lv (lv' := [(0, .ref (Γ.1 0)), (1, .int (i32 f)), (2, .int (i32 (q + (sPop (xCell I P 1 row f))))), (3, .int (i32 (row + 1)))]) [2, 3, 1, 0] rfl ?_
          exact ih_lp _ (by omega) (row + 1) (q + (sPop (xCell I P 1 row f))) (by omega) (by rw [sSum_s (by omega), ← hq]) rfl
    refine fV_lv (lv' := [(0, .ref (Γ.1 0)), (1, .int (i32 f)), (2, .int (i32 0)), (3, .int (i32 0))]) [2, 3, 1, 0] rfl ?_
    exact lp _ 0 0 (by omega) (by rw [sSum_0]) rfl
  · have d1 : ¬ (0 ≤ f ∧ f ≤ 4000) := of_decide_eq_false c1
    refine fV_bipush (n := -11) (pc' := 9) G dX3_filled_7 rfl rfl ?_
    refine fV_iret G dX3_filled_9 ?_
    exact fE_i (by unfold qXFilled; rw [if_neg (by omega)])
