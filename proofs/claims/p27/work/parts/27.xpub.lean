/-! CONTRACTS 13: the class's public writes (rows laid by wip/whole/gen/con13.py) -/
set_option maxHeartbeats 4000000 in
set_option maxRecDepth 100000 in
theorem mX3_addWord (l : Launch) (Γ : fG) {N : Nat} (hN : 214 ≤ N) (I : fM) (P : fN) (hx : xAll I P) (le f sp he way : Int) (h_le : -2147483648 ≤ le ∧ le ≤ 2147483647) (h_f : -2147483648 ≤ f ∧ f ≤ 2147483647) (h_sp : -2147483648 ≤ sp ∧ sp ≤ 2147483647) (h_he : -2147483648 ≤ he ∧ he ≤ 2147483647) (h_way : -2147483648 ≤ way ∧ way ≤ 2147483647) : fMet l yX3_addWord wsX3_addWord rmX3_addWord Γ N [.ref (Γ.1 0), .int (i32 le), .int (i32 f), .int (i32 sp), .int (i32 he), .int (i32 way)] I P (fun v J Q => v = some (.int (i32 (qXAdd I le f sp he way))) ∧ xAct I P J Q (addV le f sp he way ∧ I 1 1 ≠ 12) (fun M N => J = xApp M N 1 le f sp he way ∧ Q = N)) := by
  refine fMet_of (own := RX3) (cc := cX3_addWord) (maxL := 6) (ret := (some .int)) rfl (by decide +kernel) rfl (Nat.le_of_ble_eq_true rfl) ?_
  intro p e s m args below meth c G
  have ho := xAll_ok hx
  obtain ⟨hv, hp, hww, hst, htl⟩ := id ho
  obtain ⟨hv1, hv3, hv4, hvs⟩ := id hv
  obtain ⟨⟨-, -, hdi⟩, hpa, hhs, hhist, -, -⟩ := id hx
  have hz1 : ∀ w : Int, 0 ≤ w → w < I 1 1 → I (P (1 + 1) w) 6 = 0 ∨ I (P (1 + 1) w) 6 = 1 := fun w h0 h1 => (hww w h0 h1).2.2.2.2.2.1
  refine fV_lv (lv' := [(0, .ref (Γ.1 0)), (1, .int (i32 le)), (2, .int (i32 f)), (3, .int (i32 sp)), (4, .int (i32 he)), (5, .int (i32 way))]) [0, 1, 2, 3, 4, 5] rfl ?_
  refine fV_iload_n (pc' := 1) G 1 dX3_addWord_0 rfl rfl rfl ?_
  refine fV_iconst (pc' := 2) G dX3_addWord_1 rfl ?_
  refine fV_bipush (n := 12) (pc' := 4) G dX3_addWord_2 rfl rfl ?_
  refine fV_callSf (st' := [.int (i32 (fB (sBetw le 1 12)))]) (n := 3) (As := [.int (i32 le), .int (i32 1), .int (i32 12)]) (rest := []) (pc' := 7) G (mX3_isBetween l Γ hN I P le 1 12 (by omega) (by omega) (by omega)) kcX3_addWord_34 rfl rfl (Nat.le_of_ble_eq_true rfl) (Nat.zero_le _) (Nat.zero_le _) dX3_addWord_4 rfl rfl ?_
  refine fV_ifeq_b (tgt := 44) (pc' := 10) G dX3_addWord_7 (by decide) rfl (fun c1 => ?_) (fun c1 => ?_)
  · have d1 : ¬ (1 ≤ le ∧ le ≤ 12) := of_decide_eq_false c1
    refine fV_bipush (n := -11) (pc' := 46) G dX3_addWord_44 rfl rfl ?_
    refine fV_iret G dX3_addWord_46 ?_
    exact ⟨by unfold qXAdd; (split <;> first | rfl | omega | (split <;> first | rfl | omega | (split <;> first | rfl | omega | (split <;> first | rfl | omega | (split <;> first | rfl | omega | (split <;> first | rfl | omega | (split <;> first | rfl | omega))))))), Or.inr ⟨by omega, rfl, rfl⟩⟩
  · have d1 : (1 ≤ le ∧ le ≤ 12) := of_decide_eq_true c1
    refine fV_iconst (pc' := 11) G dX3_addWord_10 rfl ?_
    refine fV_iload_n (pc' := 12) G 2 dX3_addWord_11 rfl rfl rfl ?_
    refine fV_callSf (st' := [.int (i32 (fB (sAllowed 0 f)))]) (n := 2) (As := [.int (i32 0), .int (i32 f)]) (rest := []) (pc' := 15) G (mX3_isAllowed l Γ hN I P 0 f (by omega) (by omega)) kcX3_addWord_38 rfl rfl (Nat.le_of_ble_eq_true rfl) (Nat.zero_le _) (Nat.zero_le _) dX3_addWord_12 rfl rfl ?_
    refine fV_ifeq_b (tgt := 44) (pc' := 18) G dX3_addWord_15 (by decide) rfl (fun c2 => ?_) (fun c2 => ?_)
    · have d2 : ¬ (((0 : Int) = 0 ∧ 0 ≤ f ∧ f ≤ 2000) ∨ ((0 : Int) = 1 ∧ 1 ≤ f ∧ f ≤ 60) ∨ ((0 : Int) = 2 ∧ 0 ≤ f ∧ f ≤ 60) ∨ ((0 : Int) = 3 ∧ 0 ≤ f ∧ f ≤ 4)) := of_decide_eq_false c2
      refine fV_bipush (n := -11) (pc' := 46) G dX3_addWord_44 rfl rfl ?_
      refine fV_iret G dX3_addWord_46 ?_
      exact ⟨by unfold qXAdd; (split <;> first | rfl | omega | (split <;> first | rfl | omega | (split <;> first | rfl | omega | (split <;> first | rfl | omega | (split <;> first | rfl | omega | (split <;> first | rfl | omega | (split <;> first | rfl | omega))))))), Or.inr ⟨by omega, rfl, rfl⟩⟩
    · have d2 : (((0 : Int) = 0 ∧ 0 ≤ f ∧ f ≤ 2000) ∨ ((0 : Int) = 1 ∧ 1 ≤ f ∧ f ≤ 60) ∨ ((0 : Int) = 2 ∧ 0 ≤ f ∧ f ≤ 60) ∨ ((0 : Int) = 3 ∧ 0 ≤ f ∧ f ≤ 4)) := of_decide_eq_true c2
      refine fV_iconst (pc' := 19) G dX3_addWord_18 rfl ?_
      refine fV_iload_n (pc' := 20) G 3 dX3_addWord_19 rfl rfl rfl ?_
      refine fV_callSf (st' := [.int (i32 (fB (sAllowed 1 sp)))]) (n := 2) (As := [.int (i32 1), .int (i32 sp)]) (rest := []) (pc' := 23) G (mX3_isAllowed l Γ hN I P 1 sp (by omega) (by omega)) kcX3_addWord_38 rfl rfl (Nat.le_of_ble_eq_true rfl) (Nat.zero_le _) (Nat.zero_le _) dX3_addWord_20 rfl rfl ?_
      refine fV_ifeq_b (tgt := 44) (pc' := 26) G dX3_addWord_23 (by decide) rfl (fun c3 => ?_) (fun c3 => ?_)
      · have d3 : ¬ (((1 : Int) = 0 ∧ 0 ≤ sp ∧ sp ≤ 2000) ∨ ((1 : Int) = 1 ∧ 1 ≤ sp ∧ sp ≤ 60) ∨ ((1 : Int) = 2 ∧ 0 ≤ sp ∧ sp ≤ 60) ∨ ((1 : Int) = 3 ∧ 0 ≤ sp ∧ sp ≤ 4)) := of_decide_eq_false c3
        refine fV_bipush (n := -11) (pc' := 46) G dX3_addWord_44 rfl rfl ?_
        refine fV_iret G dX3_addWord_46 ?_
        exact ⟨by unfold qXAdd; (split <;> first | rfl | omega | (split <;> first | rfl | omega | (split <;> first | rfl | omega | (split <;> first | rfl | omega | (split <;> first | rfl | omega | (split <;> first | rfl | omega | (split <;> first | rfl | omega))))))), Or.inr ⟨by omega, rfl, rfl⟩⟩
      · have d3 : (((1 : Int) = 0 ∧ 0 ≤ sp ∧ sp ≤ 2000) ∨ ((1 : Int) = 1 ∧ 1 ≤ sp ∧ sp ≤ 60) ∨ ((1 : Int) = 2 ∧ 0 ≤ sp ∧ sp ≤ 60) ∨ ((1 : Int) = 3 ∧ 0 ≤ sp ∧ sp ≤ 4)) := of_decide_eq_true c3
        refine fV_iconst (pc' := 27) G dX3_addWord_26 rfl ?_
        refine fV_iload (pc' := 29) G 4 dX3_addWord_27 rfl rfl ?_
        refine fV_callSf (st' := [.int (i32 (fB (sAllowed 2 he)))]) (n := 2) (As := [.int (i32 2), .int (i32 he)]) (rest := []) (pc' := 32) G (mX3_isAllowed l Γ hN I P 2 he (by omega) (by omega)) kcX3_addWord_38 rfl rfl (Nat.le_of_ble_eq_true rfl) (Nat.zero_le _) (Nat.zero_le _) dX3_addWord_29 rfl rfl ?_
        refine fV_ifeq_b (tgt := 44) (pc' := 35) G dX3_addWord_32 (by decide) rfl (fun c4 => ?_) (fun c4 => ?_)
        · have d4 : ¬ (((2 : Int) = 0 ∧ 0 ≤ he ∧ he ≤ 2000) ∨ ((2 : Int) = 1 ∧ 1 ≤ he ∧ he ≤ 60) ∨ ((2 : Int) = 2 ∧ 0 ≤ he ∧ he ≤ 60) ∨ ((2 : Int) = 3 ∧ 0 ≤ he ∧ he ≤ 4)) := of_decide_eq_false c4
          refine fV_bipush (n := -11) (pc' := 46) G dX3_addWord_44 rfl rfl ?_
          refine fV_iret G dX3_addWord_46 ?_
          exact ⟨by unfold qXAdd; (split <;> first | rfl | omega | (split <;> first | rfl | omega | (split <;> first | rfl | omega | (split <;> first | rfl | omega | (split <;> first | rfl | omega | (split <;> first | rfl | omega | (split <;> first | rfl | omega))))))), Or.inr ⟨by omega, rfl, rfl⟩⟩
        · have d4 : (((2 : Int) = 0 ∧ 0 ≤ he ∧ he ≤ 2000) ∨ ((2 : Int) = 1 ∧ 1 ≤ he ∧ he ≤ 60) ∨ ((2 : Int) = 2 ∧ 0 ≤ he ∧ he ≤ 60) ∨ ((2 : Int) = 3 ∧ 0 ≤ he ∧ he ≤ 4)) := of_decide_eq_true c4
          refine fV_iconst (pc' := 36) G dX3_addWord_35 rfl ?_
          refine fV_iload (pc' := 38) G 5 dX3_addWord_36 rfl rfl ?_
          refine fV_callSf (st' := [.int (i32 (fB (sAllowed 3 way)))]) (n := 2) (As := [.int (i32 3), .int (i32 way)]) (rest := []) (pc' := 41) G (mX3_isAllowed l Γ hN I P 3 way (by omega) (by omega)) kcX3_addWord_38 rfl rfl (Nat.le_of_ble_eq_true rfl) (Nat.zero_le _) (Nat.zero_le _) dX3_addWord_38 rfl rfl ?_
          refine fV_ifne_b (tgt := 47) (pc' := 44) G dX3_addWord_41 (by decide) rfl (fun c5 => ?_) (fun c5 => ?_)
          · have d5 : (((3 : Int) = 0 ∧ 0 ≤ way ∧ way ≤ 2000) ∨ ((3 : Int) = 1 ∧ 1 ≤ way ∧ way ≤ 60) ∨ ((3 : Int) = 2 ∧ 0 ≤ way ∧ way ≤ 60) ∨ ((3 : Int) = 3 ∧ 0 ≤ way ∧ way ≤ 4)) := of_decide_eq_true c5
            refine fV_aload_n (pc' := 48) G 0 dX3_addWord_47 rfl rfl rfl ?_
            refine fV_get (K := 3) (v := .ref (Γ.1 1)) (pc' := 51) G kfX3_addWord_10 (by omega) rfl rfl rfl dX3_addWord_48 rfl ?_
            refine fV_callVf (st' := [.int (i32 (fB (decide (I 1 1 < 12))))]) (n := 0) (k := 1) (K := 0) (As := []) (rest := []) (pc' := 54) G (mX0_hasRoomForWord l Γ hN I P fSc_1 hv1) kcX3_addWord_42 (by omega) rfl rfl rfl rfl (Nat.le_of_ble_eq_true rfl) (Nat.zero_le _) (Nat.zero_le _) dX3_addWord_51 rfl rfl ?_
            refine fV_ifne_b (tgt := 60) (pc' := 57) G dX3_addWord_54 (by decide) rfl (fun c6 => ?_) (fun c6 => ?_)
            · have d6 : (I 1 1 < 12) := of_decide_eq_true c6
              refine fV_aload_n (pc' := 61) G 0 dX3_addWord_60 rfl rfl rfl ?_
              refine fV_callV (n := 0) (k := 0) (K := 3) (As := []) (rest := []) (pc' := 64) G (mX3_record l Γ hN I P hst hhs hpa hv1 hz1) kcX3_addWord_46 (by omega) rfl rfl rfl rfl (Nat.le_of_ble_eq_true rfl) (Nat.zero_le _) (Nat.zero_le _) dX3_addWord_61 rfl (fun v7 I8 P9 h10 => ?_)
              obtain ⟨h10v, hrec⟩ := h10
              refine fV_st (st' := []) (by rw [h10v]; rfl) ?_
              have hM1 : I8 1 = I 1 := xRec_o hhs hst hrec (by decide) (by decide)
              have hM3 : I8 3 = I 3 := xRec_o hhs hst hrec (by decide) (by decide)
              have hMw : ∀ w : Int, 0 ≤ w → w < 12 → I8 (P 2 w) = I (P 2 w) := fun w h0 h1 => (xRec_w hp hhs hst hrec h0 h1).1
              have hMv : fSv I8 1 := xRec_v hv hhs hst hrec
              have hN2 : P9 2 = P 2 := xRec_2 hrec
              have hpaN : fPa P9 := xRec_p hpa hrec
              have hpN : fPs P9 1 := hpaN 1 fSc_1
              refine fV_aload_n (pc' := 65) G 0 dX3_addWord_64 rfl rfl rfl ?_
              refine fV_get (K := 3) (v := .ref (Γ.1 1)) (pc' := 68) G kfX3_addWord_10 (by omega) rfl rfl rfl dX3_addWord_65 rfl ?_
              refine fV_iload_n (pc' := 69) G 1 dX3_addWord_68 rfl rfl rfl ?_
              refine fV_iload_n (pc' := 70) G 2 dX3_addWord_69 rfl rfl rfl ?_
              refine fV_iload_n (pc' := 71) G 3 dX3_addWord_70 rfl rfl rfl ?_
              refine fV_iload (pc' := 73) G 4 dX3_addWord_71 rfl rfl ?_
              refine fV_iload (pc' := 75) G 5 dX3_addWord_73 rfl rfl ?_
              obtain ⟨I11, eI11⟩ : ∃ J9 : fM, J9 = xApp I8 P9 1 le f sp he way := ⟨_, rfl⟩
              refine fV_callVf (I' := I11) (st' := [.ref (Γ.1 (P9 2 (I8 1 1)))]) (n := 5) (k := 1) (K := 0) (As := [.int (i32 le), .int (i32 f), .int (i32 sp), .int (i32 he), .int (i32 way)]) (rest := []) (pc' := 78) G (by rw [eI11]; exact mX0_appendWord l Γ hN I8 P9 fSc_1 hpN (by rw [hM1]; omega) le f sp he way (by omega)) kcX3_addWord_49 (by omega) rfl rfl rfl rfl (Nat.le_of_ble_eq_true rfl) (Nat.zero_le _) (Nat.zero_le _) dX3_addWord_75 rfl rfl ?_
              refine fV_pop (pc' := 79) G dX3_addWord_78 rfl rfl ?_
              refine fV_aload_n (pc' := 80) G 0 dX3_addWord_79 rfl rfl rfl ?_
              refine fV_get (K := 3) (v := .ref (Γ.1 1)) (pc' := 83) G kfX3_addWord_10 (by omega) rfl rfl rfl dX3_addWord_80 rfl ?_
              refine fV_get (K := 0) (v := .int (i32 (I11 1 1))) (pc' := 86) G kfX3_addWord_53 (by omega) rfl rfl rfl dX3_addWord_83 rfl ?_
              refine fV_top (b := I 1 1 + 1) (by rw [eI11]; unfold xApp; rw [fup_s, hM1]) ?_
              refine fV_iconst (pc' := 87) G dX3_addWord_86 rfl ?_
              refine fV_isub (pc' := 88) G dX3_addWord_87 rfl ?_
              refine fV_iret G dX3_addWord_88 ?_
              exact ⟨by unfold qXAdd; rw [if_pos (by omega), if_neg (by omega), show I 1 1 + 1 - 1 = I 1 1 by omega], Or.inl ⟨⟨by omega, by omega⟩, I8, P9, hrec, eI11, rfl⟩⟩
            · have d6 : ¬ (I 1 1 < 12) := of_decide_eq_false c6
              refine fV_bipush (n := -13) (pc' := 59) G dX3_addWord_57 rfl rfl ?_
              refine fV_iret G dX3_addWord_59 ?_
              exact ⟨by unfold qXAdd; (split <;> first | rfl | omega | (split <;> first | rfl | omega | (split <;> first | rfl | omega | (split <;> first | rfl | omega | (split <;> first | rfl | omega | (split <;> first | rfl | omega | (split <;> first | rfl | omega))))))), Or.inr ⟨by omega, rfl, rfl⟩⟩
          · have d5 : ¬ (((3 : Int) = 0 ∧ 0 ≤ way ∧ way ≤ 2000) ∨ ((3 : Int) = 1 ∧ 1 ≤ way ∧ way ≤ 60) ∨ ((3 : Int) = 2 ∧ 0 ≤ way ∧ way ≤ 60) ∨ ((3 : Int) = 3 ∧ 0 ≤ way ∧ way ≤ 4)) := of_decide_eq_false c5
            refine fV_bipush (n := -11) (pc' := 46) G dX3_addWord_44 rfl rfl ?_
            refine fV_iret G dX3_addWord_46 ?_
            exact ⟨by unfold qXAdd; (split <;> first | rfl | omega | (split <;> first | rfl | omega | (split <;> first | rfl | omega | (split <;> first | rfl | omega | (split <;> first | rfl | omega | (split <;> first | rfl | omega | (split <;> first | rfl | omega))))))), Or.inr ⟨by omega, rfl, rfl⟩⟩
set_option maxHeartbeats 4000000 in
set_option maxRecDepth 100000 in
theorem mX3_removeWord (l : Launch) (Γ : fG) {N : Nat} (hN : 214 ≤ N) (I : fM) (P : fN) (hx : xAll I P) (w : Int) (h_w : -2147483648 ≤ w ∧ w ≤ 2147483647) : fMet l yX3_removeWord wsX3_removeWord rmX3_removeWord Γ N [.ref (Γ.1 0), .int (i32 w)] I P (fun v J Q => v = some (.int (i32 (qXRem I w))) ∧ xAct I P J Q (0 ≤ w ∧ w < I 1 1) (fun M N => J = fup M 1 1 (M 1 1 - 1) ∧ Q = pRot N 2 w (M 1 1 - 1))) := by
  refine fMet_of (own := RX3) (cc := cX3_removeWord) (maxL := 2) (ret := (some .int)) rfl (by decide +kernel) rfl (Nat.le_of_ble_eq_true rfl) ?_
  intro p e s m args below meth c G
  have ho := xAll_ok hx
  obtain ⟨hv, hp, hww, hst, htl⟩ := id ho
  obtain ⟨hv1, hv3, hv4, hvs⟩ := id hv
  obtain ⟨⟨-, -, hdi⟩, hpa, hhs, hhist, -, -⟩ := id hx
  have hz1 : ∀ w : Int, 0 ≤ w → w < I 1 1 → I (P (1 + 1) w) 6 = 0 ∨ I (P (1 + 1) w) 6 = 1 := fun w h0 h1 => (hww w h0 h1).2.2.2.2.2.1
  refine fV_lv (lv' := [(0, .ref (Γ.1 0)), (1, .int (i32 w))]) [0, 1] rfl ?_
  refine fV_aload_n (pc' := 1) G 0 dX3_removeWord_0 rfl rfl rfl ?_
  refine fV_get (K := 3) (v := .ref (Γ.1 1)) (pc' := 4) G kfX3_removeWord_10 (by omega) rfl rfl rfl dX3_removeWord_1 rfl ?_
  refine fV_iload_n (pc' := 5) G 1 dX3_removeWord_4 rfl rfl rfl ?_
  refine fV_callVf (st' := [.int (i32 (fB (decide (0 ≤ w ∧ w < I 1 1))))]) (n := 1) (k := 1) (K := 0) (As := [.int (i32 w)]) (rest := []) (pc' := 8) G (mX0_hasWord l Γ hN I P fSc_1 hv1 w (by omega)) kcX3_removeWord_56 (by omega) rfl rfl rfl rfl (Nat.le_of_ble_eq_true rfl) (Nat.zero_le _) (Nat.zero_le _) dX3_removeWord_5 rfl rfl ?_
  refine fV_ifne_b (tgt := 14) (pc' := 11) G dX3_removeWord_8 (by decide) rfl (fun c1 => ?_) (fun c1 => ?_)
  · have d1 : (0 ≤ w ∧ w < I 1 1) := of_decide_eq_true c1
    refine fV_aload_n (pc' := 15) G 0 dX3_removeWord_14 rfl rfl rfl ?_
    refine fV_callV (n := 0) (k := 0) (K := 3) (As := []) (rest := []) (pc' := 18) G (mX3_record l Γ hN I P hst hhs hpa hv1 hz1) kcX3_removeWord_46 (by omega) rfl rfl rfl rfl (Nat.le_of_ble_eq_true rfl) (Nat.zero_le _) (Nat.zero_le _) dX3_removeWord_15 rfl (fun v2 I3 P4 h5 => ?_)
    obtain ⟨h5v, hrec⟩ := h5
    refine fV_st (st' := []) (by rw [h5v]; rfl) ?_
    have hM1 : I3 1 = I 1 := xRec_o hhs hst hrec (by decide) (by decide)
    have hM3 : I3 3 = I 3 := xRec_o hhs hst hrec (by decide) (by decide)
    have hMw : ∀ w : Int, 0 ≤ w → w < 12 → I3 (P 2 w) = I (P 2 w) := fun w h0 h1 => (xRec_w hp hhs hst hrec h0 h1).1
    have hMv : fSv I3 1 := xRec_v hv hhs hst hrec
    have hN2 : P4 2 = P 2 := xRec_2 hrec
    have hpaN : fPa P4 := xRec_p hpa hrec
    have hpN : fPs P4 1 := hpaN 1 fSc_1
    refine fV_aload_n (pc' := 19) G 0 dX3_removeWord_18 rfl rfl rfl ?_
    refine fV_get (K := 3) (v := .ref (Γ.1 1)) (pc' := 22) G kfX3_removeWord_10 (by omega) rfl rfl rfl dX3_removeWord_19 rfl ?_
    refine fV_iload_n (pc' := 23) G 1 dX3_removeWord_22 rfl rfl rfl ?_
    refine fV_callV (n := 1) (k := 1) (K := 0) (As := [.int (i32 w)]) (rest := []) (pc' := 26) G (mX0_deleteWord l Γ hN I3 P4 fSc_1 hpN (by rw [hM1]; exact hv1) w (by rw [hM1]; omega)) kcX3_removeWord_60 (by omega) rfl rfl rfl rfl (Nat.le_of_ble_eq_true rfl) (Nat.zero_le _) (Nat.zero_le _) dX3_removeWord_23 rfl (fun v6 I7 P8 h9 => ?_)
    obtain ⟨h9v, eI7, eP8⟩ := h9
    refine fV_st (st' := []) (by rw [h9v]; rfl) ?_
    refine fV_aload_n (pc' := 27) G 0 dX3_removeWord_26 rfl rfl rfl ?_
    refine fV_get (K := 3) (v := .ref (Γ.1 1)) (pc' := 30) G kfX3_removeWord_10 (by omega) rfl rfl rfl dX3_removeWord_27 rfl ?_
    refine fV_get (K := 0) (v := .int (i32 (I7 1 1))) (pc' := 33) G kfX3_removeWord_53 (by omega) rfl rfl rfl dX3_removeWord_30 rfl ?_
    refine fV_top (b := I 1 1 - 1) (by rw [eI7, fup_s, hM1]) ?_
    refine fV_iret G dX3_removeWord_33 ?_
    exact ⟨by unfold qXRem; rw [if_pos (by omega)], Or.inl ⟨by omega, I3, P4, hrec, eI7, eP8⟩⟩
  · have d1 : ¬ (0 ≤ w ∧ w < I 1 1) := of_decide_eq_false c1
    refine fV_bipush (n := -11) (pc' := 13) G dX3_removeWord_11 rfl rfl ?_
    refine fV_iret G dX3_removeWord_13 ?_
    exact ⟨by unfold qXRem; rw [if_neg (by omega)], Or.inr ⟨by omega, rfl, rfl⟩⟩
set_option maxHeartbeats 4000000 in
set_option maxRecDepth 100000 in
theorem mX3_setWord (l : Launch) (Γ : fG) {N : Nat} (hN : 214 ≤ N) (I : fM) (P : fN) (hx : xAll I P) (w what v : Int) (h_w : -2147483648 ≤ w ∧ w ≤ 2147483647) (h_what : -2147483648 ≤ what ∧ what ≤ 2147483647) (h_v : -2147483648 ≤ v ∧ v ≤ 2147483647) : fMet l yX3_setWord wsX3_setWord rmX3_setWord Γ N [.ref (Γ.1 0), .int (i32 w), .int (i32 what), .int (i32 v)] I P (fun v9 J Q => v9 = some (.int (i32 (qXSet I P w what v))) ∧ xAct I P J Q ((0 ≤ w ∧ w < I 1 1) ∧ sAllowed what v = true) (fun M N => J = fup (fup M (N 2 w) (what + 2) v) (N 2 w) 6 0 ∧ Q = N)) := by
  refine fMet_of (own := RX3) (cc := cX3_setWord) (maxL := 6) (ret := (some .int)) rfl (by decide +kernel) rfl (Nat.le_of_ble_eq_true rfl) ?_
  intro p e s m args below meth c G
  have ho := xAll_ok hx
  obtain ⟨hv, hp, hww, hst, htl⟩ := id ho
  obtain ⟨hv1, hv3, hv4, hvs⟩ := id hv
  obtain ⟨⟨-, -, hdi⟩, hpa, hhs, hhist, -, -⟩ := id hx
  have hz1 : ∀ w : Int, 0 ≤ w → w < I 1 1 → I (P (1 + 1) w) 6 = 0 ∨ I (P (1 + 1) w) 6 = 1 := fun w h0 h1 => (hww w h0 h1).2.2.2.2.2.1
  refine fV_lv (lv' := [(0, .ref (Γ.1 0)), (1, .int (i32 w)), (2, .int (i32 what)), (3, .int (i32 v))]) [0, 1, 2, 3] rfl ?_
  refine fV_aload_n (pc' := 1) G 0 dX3_setWord_0 rfl rfl rfl ?_
  refine fV_get (K := 3) (v := .ref (Γ.1 1)) (pc' := 4) G kfX3_setWord_10 (by omega) rfl rfl rfl dX3_setWord_1 rfl ?_
  refine fV_iload_n (pc' := 5) G 1 dX3_setWord_4 rfl rfl rfl ?_
  refine fV_callVf (st' := [.int (i32 (fB (decide (0 ≤ w ∧ w < I 1 1))))]) (n := 1) (k := 1) (K := 0) (As := [.int (i32 w)]) (rest := []) (pc' := 8) G (mX0_hasWord l Γ hN I P fSc_1 hv1 w (by omega)) kcX3_setWord_56 (by omega) rfl rfl rfl rfl (Nat.le_of_ble_eq_true rfl) (Nat.zero_le _) (Nat.zero_le _) dX3_setWord_5 rfl rfl ?_
  refine fV_ifeq_b (tgt := 19) (pc' := 11) G dX3_setWord_8 (by decide) rfl (fun c1 => ?_) (fun c1 => ?_)
  · have d1 : ¬ (0 ≤ w ∧ w < I 1 1) := of_decide_eq_false c1
    refine fV_bipush (n := -11) (pc' := 21) G dX3_setWord_19 rfl rfl ?_
    refine fV_iret G dX3_setWord_21 ?_
    exact ⟨by unfold qXSet; rw [if_neg (by first | (intro z; omega) | (intro z; rw [hal] at z; cases z.2))], Or.inr ⟨by first | (intro z; omega) | (intro z; rw [hal] at z; cases z.2), rfl, rfl⟩⟩
  · have d1 : (0 ≤ w ∧ w < I 1 1) := of_decide_eq_true c1
    refine fV_iload_n (pc' := 12) G 2 dX3_setWord_11 rfl rfl rfl ?_
    refine fV_iload_n (pc' := 13) G 3 dX3_setWord_12 rfl rfl rfl ?_
    refine fV_callSf (st' := [.int (i32 (fB (sAllowed what v)))]) (n := 2) (As := [.int (i32 what), .int (i32 v)]) (rest := []) (pc' := 16) G (mX3_isAllowed l Γ hN I P what v (by omega) (by omega)) kcX3_setWord_38 rfl rfl (Nat.le_of_ble_eq_true rfl) (Nat.zero_le _) (Nat.zero_le _) dX3_setWord_13 rfl rfl ?_
    refine fV_ifne_b (tgt := 22) (pc' := 19) G dX3_setWord_16 (by decide) rfl (fun c2 => ?_) (fun c2 => ?_)
    · have d2 : (((what : Int) = 0 ∧ 0 ≤ v ∧ v ≤ 2000) ∨ ((what : Int) = 1 ∧ 1 ≤ v ∧ v ≤ 60) ∨ ((what : Int) = 2 ∧ 0 ≤ v ∧ v ≤ 60) ∨ ((what : Int) = 3 ∧ 0 ≤ v ∧ v ≤ 4)) := of_decide_eq_true c2
      have hal := c2
      have hwr : 0 ≤ what ∧ what ≤ 3 := by have z9 := of_decide_eq_true c2; omega
      refine fV_aload_n (pc' := 23) G 0 dX3_setWord_22 rfl rfl rfl ?_
      refine fV_callV (n := 0) (k := 0) (K := 3) (As := []) (rest := []) (pc' := 26) G (mX3_record l Γ hN I P hst hhs hpa hv1 hz1) kcX3_setWord_46 (by omega) rfl rfl rfl rfl (Nat.le_of_ble_eq_true rfl) (Nat.zero_le _) (Nat.zero_le _) dX3_setWord_23 rfl (fun v3 I4 P5 h6 => ?_)
      obtain ⟨h6v, hrec⟩ := h6
      refine fV_st (st' := []) (by rw [h6v]; rfl) ?_
      have hM1 : I4 1 = I 1 := xRec_o hhs hst hrec (by decide) (by decide)
      have hM3 : I4 3 = I 3 := xRec_o hhs hst hrec (by decide) (by decide)
      have hMw : ∀ w : Int, 0 ≤ w → w < 12 → I4 (P 2 w) = I (P 2 w) := fun w h0 h1 => (xRec_w hp hhs hst hrec h0 h1).1
      have hMv : fSv I4 1 := xRec_v hv hhs hst hrec
      have hN2 : P5 2 = P 2 := xRec_2 hrec
      have hpaN : fPa P5 := xRec_p hpa hrec
      have hpN : fPs P5 1 := hpaN 1 fSc_1
      refine fV_aload_n (pc' := 27) G 0 dX3_setWord_26 rfl rfl rfl ?_
      refine fV_get (K := 3) (v := .ref (Γ.1 1)) (pc' := 30) G kfX3_setWord_10 (by omega) rfl rfl rfl dX3_setWord_27 rfl ?_
      refine fV_get (K := 0) (v := .ref (Γ.1 2)) (pc' := 33) G kfX3_setWord_64 (by omega) rfl rfl rfl dX3_setWord_30 rfl ?_
      refine fV_iload_n (pc' := 34) G 1 dX3_setWord_33 rfl rfl rfl ?_
      refine fV_aald (K := 11) (n := 12) (t := 1) (pc' := 35) G (by omega) rfl (fun _ _ => rfl) rfl (by decide) (by omega) dX3_setWord_34 rfl ?_
      refine fV_astore (lv' := [(4, .ref (Γ.1 (P5 2 w))), (0, .ref (Γ.1 0)), (1, .int (i32 w)), (2, .int (i32 what)), (3, .int (i32 v))]) (pc' := 37) G dX3_setWord_35 (by decide) rfl rfl ?_
      refine fV_aload (pc' := 39) G 0 dX3_setWord_37 rfl rfl ?_
      refine fV_iload_n (pc' := 40) G 3 dX3_setWord_39 rfl rfl rfl ?_
      refine fV_callVf (st' := [.int (i32 (I4 (P5 2 w) (what + 2)))]) (n := 1) (k := (P5 2 w)) (K := 2) (As := [.int (i32 what)]) (rest := []) (pc' := 43) G (mX2_property l Γ hN I4 P5 (fPs_w fSc_1 hpN (by omega) (by omega)) what (by omega)) kcX3_setWord_68 (by have z9 : P5 2 w + 1 < 212 := (fPs_w fSc_1 hpN (by omega) (by omega)).1; omega) (fPs_w fSc_1 hpN (w := w) (by omega) (by omega)).2.1 rfl rfl rfl (Nat.le_of_ble_eq_true rfl) (Nat.zero_le _) (Nat.zero_le _) dX3_setWord_40 rfl rfl ?_
      refine fV_top (b := I (P 2 w) (what + 2)) (by rw [hN2, hMw w (by omega) (by omega)]) ?_
      refine fV_istore (lv' := [(5, .int (i32 (I (P 2 w) (what + 2)))), (4, .ref (Γ.1 (P5 2 w))), (0, .ref (Γ.1 0)), (1, .int (i32 w)), (2, .int (i32 what)), (3, .int (i32 v))]) (pc' := 45) G dX3_setWord_43 (by decide) rfl rfl ?_
      refine fV_aload (pc' := 47) G 1 dX3_setWord_45 rfl rfl ?_
      refine fV_iload_n (pc' := 48) G 4 dX3_setWord_47 rfl rfl rfl ?_
      refine fV_iload_n (pc' := 49) G 5 dX3_setWord_48 rfl rfl rfl ?_
      obtain ⟨I7, eI7⟩ : ∃ J9 : fM, J9 = fup I4 (P5 2 w) (what + 2) v := ⟨_, rfl⟩
      refine fV_callVf (I' := I7) (st' := []) (n := 2) (k := (P5 2 w)) (K := 2) (As := [.int (i32 what), .int (i32 v)]) (rest := []) (pc' := 52) G (by rw [eI7]; exact mX2_setProperty l Γ hN I4 P5 (fPs_w fSc_1 hpN (by omega) (by omega)) what v (by omega)) kcX3_setWord_74 (by have z9 : P5 2 w + 1 < 212 := (fPs_w fSc_1 hpN (by omega) (by omega)).1; omega) (fPs_w fSc_1 hpN (w := w) (by omega) (by omega)).2.1 rfl rfl rfl (Nat.le_of_ble_eq_true rfl) (Nat.zero_le _) (Nat.zero_le _) dX3_setWord_49 rfl rfl ?_
      refine fV_aload (pc' := 54) G 1 dX3_setWord_52 rfl rfl ?_
      refine fV_iconst (pc' := 55) G dX3_setWord_54 rfl ?_
      refine fV_put (K := 2) (jj := 6) (x := 0) (v := .int (i32 0)) (ty := .boolean) (pc' := 58) G kfX3_setWord_78 (by have z9 : P5 2 w + 1 < 212 := (fPs_w fSc_1 hpN (by omega) (by omega)).1; omega) (fPs_w fSc_1 hpN (w := w) (by omega) (by omega)).2.1 rfl rfl kp2_6 rfl rfl (Nat.le_of_ble_eq_true rfl) dX3_setWord_55 rfl (fun I8 eI8 => ?_)
      refine fV_iload (pc' := 60) G 0 dX3_setWord_58 rfl rfl ?_
      refine fV_iret G dX3_setWord_60 ?_
      exact ⟨by unfold qXSet; rw [if_pos ⟨by omega, hal⟩], Or.inl ⟨⟨by omega, hal⟩, I4, P5, hrec, by rw [eI8, eI7], rfl⟩⟩
    · have d2 : ¬ (((what : Int) = 0 ∧ 0 ≤ v ∧ v ≤ 2000) ∨ ((what : Int) = 1 ∧ 1 ≤ v ∧ v ≤ 60) ∨ ((what : Int) = 2 ∧ 0 ≤ v ∧ v ≤ 60) ∨ ((what : Int) = 3 ∧ 0 ≤ v ∧ v ≤ 4)) := of_decide_eq_false c2
      have hal := c2
      refine fV_bipush (n := -11) (pc' := 21) G dX3_setWord_19 rfl rfl ?_
      refine fV_iret G dX3_setWord_21 ?_
      exact ⟨by unfold qXSet; rw [if_neg (by first | (intro z; omega) | (intro z; rw [hal] at z; cases z.2))], Or.inr ⟨by first | (intro z; omega) | (intro z; rw [hal] at z; cases z.2), rfl, rfl⟩⟩
set_option maxHeartbeats 4000000 in
set_option maxRecDepth 100000 in
theorem mX3_addShot (l : Launch) (Γ : fG) {N : Nat} (hN : 214 ≤ N) (I : fM) (P : fN) (hx : xAll I P) (f : Int) (h_f : -2147483648 ≤ f ∧ f ≤ 2147483647) : fMet l yX3_addShot wsX3_addShot rmX3_addShot Γ N [.ref (Γ.1 0), .int (i32 f)] I P (fun v J Q => v = some (.int (i32 (qXAddShot I f))) ∧ xAct I P J Q ((1 ≤ f ∧ f ≤ 3000) ∧ ¬ xShotOf I 1 f < I 1 3 ∧ I 1 3 ≠ 10) (fun M N => J = xInsS M f ∧ Q = N)) := by
  refine fMet_of (own := RX3) (cc := cX3_addShot) (maxL := 2) (ret := (some .int)) rfl (by decide +kernel) rfl (Nat.le_of_ble_eq_true rfl) ?_
  intro p e s m args below meth c G
  have ho := xAll_ok hx
  obtain ⟨hv, hp, hww, hst, htl⟩ := id ho
  obtain ⟨hv1, hv3, hv4, hvs⟩ := id hv
  obtain ⟨⟨-, -, hdi⟩, hpa, hhs, hhist, -, -⟩ := id hx
  have hz1 : ∀ w : Int, 0 ≤ w → w < I 1 1 → I (P (1 + 1) w) 6 = 0 ∨ I (P (1 + 1) w) 6 = 1 := fun w h0 h1 => (hww w h0 h1).2.2.2.2.2.1
  refine fV_lv (lv' := [(0, .ref (Γ.1 0)), (1, .int (i32 f))]) [0, 1] rfl ?_
  refine fV_iload_n (pc' := 1) G 1 dX3_addShot_0 rfl rfl rfl ?_
  refine fV_iconst (pc' := 2) G dX3_addShot_1 rfl ?_
  refine fV_sipush (n := 3000) (pc' := 5) G dX3_addShot_2 rfl rfl ?_
  refine fV_callSf (st' := [.int (i32 (fB (sBetw f 1 3000)))]) (n := 3) (As := [.int (i32 f), .int (i32 1), .int (i32 3000)]) (rest := []) (pc' := 8) G (mX3_isBetween l Γ hN I P f 1 3000 (by omega) (by omega) (by omega)) kcX3_addShot_34 rfl rfl (Nat.le_of_ble_eq_true rfl) (Nat.zero_le _) (Nat.zero_le _) dX3_addShot_5 rfl rfl ?_
  refine fV_ifne_b (tgt := 14) (pc' := 11) G dX3_addShot_8 (by decide) rfl (fun c1 => ?_) (fun c1 => ?_)
  · have d1 : (1 ≤ f ∧ f ≤ 3000) := of_decide_eq_true c1
    refine fV_aload_n (pc' := 15) G 0 dX3_addShot_14 rfl rfl rfl ?_
    refine fV_get (K := 3) (v := .ref (Γ.1 1)) (pc' := 18) G kfX3_addShot_10 (by omega) rfl rfl rfl dX3_addShot_15 rfl ?_
    refine fV_iload_n (pc' := 19) G 1 dX3_addShot_18 rfl rfl rfl ?_
    refine fV_callVf (st' := [.int (i32 (fB (decide (xShotOf I 1 f < I 1 3))))]) (n := 1) (k := 1) (K := 0) (As := [.int (i32 f)]) (rest := []) (pc' := 22) G (mX0_hasShotIn l Γ hN I P fSc_1 hv f (by omega)) kcX3_addShot_82 (by omega) rfl rfl rfl rfl (Nat.le_of_ble_eq_true rfl) (Nat.zero_le _) (Nat.zero_le _) dX3_addShot_19 rfl rfl ?_
    refine fV_ifeq_b (tgt := 28) (pc' := 25) G dX3_addShot_22 (by decide) rfl (fun c2 => ?_) (fun c2 => ?_)
    · have d2 : ¬ (xShotOf I 1 f < I 1 3) := of_decide_eq_false c2
      refine fV_aload_n (pc' := 29) G 0 dX3_addShot_28 rfl rfl rfl ?_
      refine fV_get (K := 3) (v := .ref (Γ.1 1)) (pc' := 32) G kfX3_addShot_10 (by omega) rfl rfl rfl dX3_addShot_29 rfl ?_
      refine fV_callVf (st' := [.int (i32 (fB (decide (I 1 3 < 10))))]) (n := 0) (k := 1) (K := 0) (As := []) (rest := []) (pc' := 35) G (mX0_hasRoomForShot l Γ hN I P fSc_1 hv3) kcX3_addShot_85 (by omega) rfl rfl rfl rfl (Nat.le_of_ble_eq_true rfl) (Nat.zero_le _) (Nat.zero_le _) dX3_addShot_32 rfl rfl ?_
      refine fV_ifne_b (tgt := 41) (pc' := 38) G dX3_addShot_35 (by decide) rfl (fun c3 => ?_) (fun c3 => ?_)
      · have d3 : (I 1 3 < 10) := of_decide_eq_true c3
        refine fV_aload_n (pc' := 42) G 0 dX3_addShot_41 rfl rfl rfl ?_
        refine fV_callV (n := 0) (k := 0) (K := 3) (As := []) (rest := []) (pc' := 45) G (mX3_record l Γ hN I P hst hhs hpa hv1 hz1) kcX3_addShot_46 (by omega) rfl rfl rfl rfl (Nat.le_of_ble_eq_true rfl) (Nat.zero_le _) (Nat.zero_le _) dX3_addShot_42 rfl (fun v4 I5 P6 h7 => ?_)
        obtain ⟨h7v, hrec⟩ := h7
        refine fV_st (st' := []) (by rw [h7v]; rfl) ?_
        have hM1 : I5 1 = I 1 := xRec_o hhs hst hrec (by decide) (by decide)
        have hM3 : I5 3 = I 3 := xRec_o hhs hst hrec (by decide) (by decide)
        have hMw : ∀ w : Int, 0 ≤ w → w < 12 → I5 (P 2 w) = I (P 2 w) := fun w h0 h1 => (xRec_w hp hhs hst hrec h0 h1).1
        have hMv : fSv I5 1 := xRec_v hv hhs hst hrec
        have hN2 : P6 2 = P 2 := xRec_2 hrec
        have hpaN : fPa P6 := xRec_p hpa hrec
        have hpN : fPs P6 1 := hpaN 1 fSc_1
        refine fV_aload_n (pc' := 46) G 0 dX3_addShot_45 rfl rfl rfl ?_
        refine fV_get (K := 3) (v := .ref (Γ.1 1)) (pc' := 49) G kfX3_addShot_10 (by omega) rfl rfl rfl dX3_addShot_46 rfl ?_
        refine fV_iload_n (pc' := 50) G 1 dX3_addShot_49 rfl rfl rfl ?_
        obtain ⟨I8, eI8⟩ : ∃ J9 : fM, J9 = xInsS I5 f := ⟨_, rfl⟩
        refine fV_callVf (I' := I8) (st' := []) (n := 1) (k := 1) (K := 0) (As := [.int (i32 f)]) (rest := []) (pc' := 53) G (by rw [eI8]; exact mX0_insertShot l Γ hN I5 P6 fSc_1 hMv (by rw [hM1]; omega) f (by omega)) kcX3_addShot_88 (by omega) rfl rfl rfl rfl (Nat.le_of_ble_eq_true rfl) (Nat.zero_le _) (Nat.zero_le _) dX3_addShot_50 rfl rfl ?_
        refine fV_aload_n (pc' := 54) G 0 dX3_addShot_53 rfl rfl rfl ?_
        refine fV_get (K := 3) (v := .ref (Γ.1 1)) (pc' := 57) G kfX3_addShot_10 (by omega) rfl rfl rfl dX3_addShot_54 rfl ?_
        refine fV_get (K := 0) (v := .int (i32 (I8 1 3))) (pc' := 60) G kfX3_addShot_91 (by omega) rfl rfl rfl dX3_addShot_57 rfl ?_
        refine fV_top (b := I 1 3 + 1) (by rw [eI8]; unfold xInsS; rw [fup_s, hM1]) ?_
        refine fV_iret G dX3_addShot_60 ?_
        exact ⟨by unfold qXAddShot; rw [if_pos (by omega), if_neg (by omega), if_neg (by omega)], Or.inl ⟨⟨by omega, by omega, by omega⟩, I5, P6, hrec, eI8, rfl⟩⟩
      · have d3 : ¬ (I 1 3 < 10) := of_decide_eq_false c3
        refine fV_bipush (n := -13) (pc' := 40) G dX3_addShot_38 rfl rfl ?_
        refine fV_iret G dX3_addShot_40 ?_
        exact ⟨by unfold qXAddShot; (split <;> first | rfl | omega | (split <;> first | rfl | omega | (split <;> first | rfl | omega | (split <;> first | rfl | omega | (split <;> first | rfl | omega | (split <;> first | rfl | omega | (split <;> first | rfl | omega))))))), Or.inr ⟨by omega, rfl, rfl⟩⟩
    · have d2 : (xShotOf I 1 f < I 1 3) := of_decide_eq_true c2
      refine fV_bipush (n := -12) (pc' := 27) G dX3_addShot_25 rfl rfl ?_
      refine fV_iret G dX3_addShot_27 ?_
      exact ⟨by unfold qXAddShot; (split <;> first | rfl | omega | (split <;> first | rfl | omega | (split <;> first | rfl | omega | (split <;> first | rfl | omega | (split <;> first | rfl | omega | (split <;> first | rfl | omega | (split <;> first | rfl | omega))))))), Or.inr ⟨by omega, rfl, rfl⟩⟩
  · have d1 : ¬ (1 ≤ f ∧ f ≤ 3000) := of_decide_eq_false c1
    refine fV_bipush (n := -11) (pc' := 13) G dX3_addShot_11 rfl rfl ?_
    refine fV_iret G dX3_addShot_13 ?_
    exact ⟨by unfold qXAddShot; (split <;> first | rfl | omega | (split <;> first | rfl | omega | (split <;> first | rfl | omega | (split <;> first | rfl | omega | (split <;> first | rfl | omega | (split <;> first | rfl | omega | (split <;> first | rfl | omega))))))), Or.inr ⟨by omega, rfl, rfl⟩⟩
set_option maxHeartbeats 4000000 in
set_option maxRecDepth 100000 in
theorem mX3_removeShot (l : Launch) (Γ : fG) {N : Nat} (hN : 214 ≤ N) (I : fM) (P : fN) (hx : xAll I P) (f : Int) (h_f : -2147483648 ≤ f ∧ f ≤ 2147483647) : fMet l yX3_removeShot wsX3_removeShot rmX3_removeShot Γ N [.ref (Γ.1 0), .int (i32 f)] I P (fun v J Q => v = some (.int (i32 (qXRemShot I f))) ∧ xAct I P J Q ((1 ≤ f ∧ f ≤ 3000) ∧ xShotOf I 1 f < I 1 3) (fun M N => J = xDelS M (xShotOf I 1 f) ∧ Q = N)) := by
  refine fMet_of (own := RX3) (cc := cX3_removeShot) (maxL := 2) (ret := (some .int)) rfl (by decide +kernel) rfl (Nat.le_of_ble_eq_true rfl) ?_
  intro p e s m args below meth c G
  have ho := xAll_ok hx
  obtain ⟨hv, hp, hww, hst, htl⟩ := id ho
  obtain ⟨hv1, hv3, hv4, hvs⟩ := id hv
  obtain ⟨⟨-, -, hdi⟩, hpa, hhs, hhist, -, -⟩ := id hx
  have hz1 : ∀ w : Int, 0 ≤ w → w < I 1 1 → I (P (1 + 1) w) 6 = 0 ∨ I (P (1 + 1) w) 6 = 1 := fun w h0 h1 => (hww w h0 h1).2.2.2.2.2.1
  have hsb := (sF_is (c := fun i => I 3 i = f) (a := 0) (b := I 1 3) hv3.1)
  have hse : xShotOf I 1 f = sF (fun i => I 3 i = f) 0 (I 1 3) := rfl
  refine fV_lv (lv' := [(0, .ref (Γ.1 0)), (1, .int (i32 f))]) [0, 1] rfl ?_
  refine fV_iload_n (pc' := 1) G 1 dX3_removeShot_0 rfl rfl rfl ?_
  refine fV_iconst (pc' := 2) G dX3_removeShot_1 rfl ?_
  refine fV_sipush (n := 3000) (pc' := 5) G dX3_removeShot_2 rfl rfl ?_
  refine fV_callSf (st' := [.int (i32 (fB (sBetw f 1 3000)))]) (n := 3) (As := [.int (i32 f), .int (i32 1), .int (i32 3000)]) (rest := []) (pc' := 8) G (mX3_isBetween l Γ hN I P f 1 3000 (by omega) (by omega) (by omega)) kcX3_removeShot_34 rfl rfl (Nat.le_of_ble_eq_true rfl) (Nat.zero_le _) (Nat.zero_le _) dX3_removeShot_5 rfl rfl ?_
  refine fV_ifne_b (tgt := 14) (pc' := 11) G dX3_removeShot_8 (by decide) rfl (fun c1 => ?_) (fun c1 => ?_)
  · have d1 : (1 ≤ f ∧ f ≤ 3000) := of_decide_eq_true c1
    refine fV_aload_n (pc' := 15) G 0 dX3_removeShot_14 rfl rfl rfl ?_
    refine fV_get (K := 3) (v := .ref (Γ.1 1)) (pc' := 18) G kfX3_removeShot_10 (by omega) rfl rfl rfl dX3_removeShot_15 rfl ?_
    refine fV_iload_n (pc' := 19) G 1 dX3_removeShot_18 rfl rfl rfl ?_
    refine fV_callVf (st' := [.int (i32 (fB (decide (xShotOf I 1 f < I 1 3))))]) (n := 1) (k := 1) (K := 0) (As := [.int (i32 f)]) (rest := []) (pc' := 22) G (mX0_hasShotIn l Γ hN I P fSc_1 hv f (by omega)) kcX3_removeShot_82 (by omega) rfl rfl rfl rfl (Nat.le_of_ble_eq_true rfl) (Nat.zero_le _) (Nat.zero_le _) dX3_removeShot_19 rfl rfl ?_
    refine fV_ifne_b (tgt := 28) (pc' := 25) G dX3_removeShot_22 (by decide) rfl (fun c2 => ?_) (fun c2 => ?_)
    · have d2 : (xShotOf I 1 f < I 1 3) := of_decide_eq_true c2
      refine fV_aload_n (pc' := 29) G 0 dX3_removeShot_28 rfl rfl rfl ?_
      refine fV_callV (n := 0) (k := 0) (K := 3) (As := []) (rest := []) (pc' := 32) G (mX3_record l Γ hN I P hst hhs hpa hv1 hz1) kcX3_removeShot_46 (by omega) rfl rfl rfl rfl (Nat.le_of_ble_eq_true rfl) (Nat.zero_le _) (Nat.zero_le _) dX3_removeShot_29 rfl (fun v3 I4 P5 h6 => ?_)
      obtain ⟨h6v, hrec⟩ := h6
      refine fV_st (st' := []) (by rw [h6v]; rfl) ?_
      have hM1 : I4 1 = I 1 := xRec_o hhs hst hrec (by decide) (by decide)
      have hM3 : I4 3 = I 3 := xRec_o hhs hst hrec (by decide) (by decide)
      have hMw : ∀ w : Int, 0 ≤ w → w < 12 → I4 (P 2 w) = I (P 2 w) := fun w h0 h1 => (xRec_w hp hhs hst hrec h0 h1).1
      have hMv : fSv I4 1 := xRec_v hv hhs hst hrec
      have hN2 : P5 2 = P 2 := xRec_2 hrec
      have hpaN : fPa P5 := xRec_p hpa hrec
      have hpN : fPs P5 1 := hpaN 1 fSc_1
      refine fV_aload_n (pc' := 33) G 0 dX3_removeShot_32 rfl rfl rfl ?_
      refine fV_get (K := 3) (v := .ref (Γ.1 1)) (pc' := 36) G kfX3_removeShot_10 (by omega) rfl rfl rfl dX3_removeShot_33 rfl ?_
      refine fV_iload_n (pc' := 37) G 1 dX3_removeShot_36 rfl rfl rfl ?_
      have hq9 := hsb.2.2 (by omega)
      rw [← hse] at hq9 hsb
      obtain ⟨I7, eI7⟩ : ∃ J9 : fM, J9 = xDelS I4 (xShotOf I 1 f) := ⟨_, rfl⟩
      refine fV_callVf (I' := I7) (st' := []) (n := 1) (k := 1) (K := 0) (As := [.int (i32 f)]) (rest := []) (pc' := 40) G (by rw [eI7]; exact mX0_deleteShot l Γ hN I4 P5 fSc_1 hMv f (by omega) (xShotOf I 1 f) (by rw [hM1, show (1 + 2 : Nat) = 3 from rfl, hM3]; exact ⟨⟨hsb.1.1, by omega⟩, hq9⟩) (fun i i0 i1 i2 => by rw [hM1] at i1; rw [show (1 + 2 : Nat) = 3 from rfl, hM3]; exact shot_un hdi hsb.1.1 (by omega) i0 i1 i2 hq9)) kcX3_removeShot_94 (by omega) rfl rfl rfl rfl (Nat.le_of_ble_eq_true rfl) (Nat.zero_le _) (Nat.zero_le _) dX3_removeShot_37 rfl rfl ?_
      refine fV_aload_n (pc' := 41) G 0 dX3_removeShot_40 rfl rfl rfl ?_
      refine fV_get (K := 3) (v := .ref (Γ.1 1)) (pc' := 44) G kfX3_removeShot_10 (by omega) rfl rfl rfl dX3_removeShot_41 rfl ?_
      refine fV_get (K := 0) (v := .int (i32 (I7 1 3))) (pc' := 47) G kfX3_removeShot_91 (by omega) rfl rfl rfl dX3_removeShot_44 rfl ?_
      refine fV_top (b := I 1 3 - 1) (by rw [eI7]; unfold xDelS; rw [fup_s, hM1]) ?_
      refine fV_iret G dX3_removeShot_47 ?_
      exact ⟨by unfold qXRemShot; rw [if_pos (by omega), if_pos (by omega)], Or.inl ⟨⟨by omega, by omega⟩, I4, P5, hrec, eI7, rfl⟩⟩
    · have d2 : ¬ (xShotOf I 1 f < I 1 3) := of_decide_eq_false c2
      refine fV_bipush (n := -12) (pc' := 27) G dX3_removeShot_25 rfl rfl ?_
      refine fV_iret G dX3_removeShot_27 ?_
      exact ⟨by unfold qXRemShot; (split <;> first | rfl | omega | (split <;> first | rfl | omega | (split <;> first | rfl | omega | (split <;> first | rfl | omega | (split <;> first | rfl | omega | (split <;> first | rfl | omega | (split <;> first | rfl | omega))))))), Or.inr ⟨by omega, rfl, rfl⟩⟩
  · have d1 : ¬ (1 ≤ f ∧ f ≤ 3000) := of_decide_eq_false c1
    refine fV_bipush (n := -11) (pc' := 13) G dX3_removeShot_11 rfl rfl ?_
    refine fV_iret G dX3_removeShot_13 ?_
    exact ⟨by unfold qXRemShot; (split <;> first | rfl | omega | (split <;> first | rfl | omega | (split <;> first | rfl | omega | (split <;> first | rfl | omega | (split <;> first | rfl | omega | (split <;> first | rfl | omega | (split <;> first | rfl | omega))))))), Or.inr ⟨by omega, rfl, rfl⟩⟩
set_option maxHeartbeats 4000000 in
set_option maxRecDepth 100000 in
theorem mX3_setSpeed (l : Launch) (Γ : fG) {N : Nat} (hN : 214 ≤ N) (I : fM) (P : fN) (hx : xAll I P) (x : Int) (h_x : -2147483648 ≤ x ∧ x ≤ 2147483647) : fMet l yX3_setSpeed wsX3_setSpeed rmX3_setSpeed Γ N [.ref (Γ.1 0), .int (i32 x)] I P (fun v J Q => v = some (.int (i32 (qXSpeed I x))) ∧ xAct I P J Q (50 ≤ x ∧ x ≤ 400) (fun M N => J = fup M 1 4 x ∧ Q = N)) := by
  refine fMet_of (own := RX3) (cc := cX3_setSpeed) (maxL := 3) (ret := (some .int)) rfl (by decide +kernel) rfl (Nat.le_of_ble_eq_true rfl) ?_
  intro p e s m args below meth c G
  have ho := xAll_ok hx
  obtain ⟨hv, hp, hww, hst, htl⟩ := id ho
  obtain ⟨hv1, hv3, hv4, hvs⟩ := id hv
  obtain ⟨⟨-, -, hdi⟩, hpa, hhs, hhist, -, -⟩ := id hx
  have hz1 : ∀ w : Int, 0 ≤ w → w < I 1 1 → I (P (1 + 1) w) 6 = 0 ∨ I (P (1 + 1) w) 6 = 1 := fun w h0 h1 => (hww w h0 h1).2.2.2.2.2.1
  refine fV_lv (lv' := [(0, .ref (Γ.1 0)), (1, .int (i32 x))]) [0, 1] rfl ?_
  refine fV_iload_n (pc' := 1) G 1 dX3_setSpeed_0 rfl rfl rfl ?_
  refine fV_bipush (n := 50) (pc' := 3) G dX3_setSpeed_1 rfl rfl ?_
  refine fV_sipush (n := 400) (pc' := 6) G dX3_setSpeed_3 rfl rfl ?_
  refine fV_callSf (st' := [.int (i32 (fB (sBetw x 50 400)))]) (n := 3) (As := [.int (i32 x), .int (i32 50), .int (i32 400)]) (rest := []) (pc' := 9) G (mX3_isBetween l Γ hN I P x 50 400 (by omega) (by omega) (by omega)) kcX3_setSpeed_34 rfl rfl (Nat.le_of_ble_eq_true rfl) (Nat.zero_le _) (Nat.zero_le _) dX3_setSpeed_6 rfl rfl ?_
  refine fV_ifne_b (tgt := 15) (pc' := 12) G dX3_setSpeed_9 (by decide) rfl (fun c1 => ?_) (fun c1 => ?_)
  · have d1 : (50 ≤ x ∧ x ≤ 400) := of_decide_eq_true c1
    refine fV_aload_n (pc' := 16) G 0 dX3_setSpeed_15 rfl rfl rfl ?_
    refine fV_callV (n := 0) (k := 0) (K := 3) (As := []) (rest := []) (pc' := 19) G (mX3_record l Γ hN I P hst hhs hpa hv1 hz1) kcX3_setSpeed_46 (by omega) rfl rfl rfl rfl (Nat.le_of_ble_eq_true rfl) (Nat.zero_le _) (Nat.zero_le _) dX3_setSpeed_16 rfl (fun v2 I3 P4 h5 => ?_)
    obtain ⟨h5v, hrec⟩ := h5
    refine fV_st (st' := []) (by rw [h5v]; rfl) ?_
    have hM1 : I3 1 = I 1 := xRec_o hhs hst hrec (by decide) (by decide)
    have hM3 : I3 3 = I 3 := xRec_o hhs hst hrec (by decide) (by decide)
    have hMw : ∀ w : Int, 0 ≤ w → w < 12 → I3 (P 2 w) = I (P 2 w) := fun w h0 h1 => (xRec_w hp hhs hst hrec h0 h1).1
    have hMv : fSv I3 1 := xRec_v hv hhs hst hrec
    have hN2 : P4 2 = P 2 := xRec_2 hrec
    have hpaN : fPa P4 := xRec_p hpa hrec
    have hpN : fPs P4 1 := hpaN 1 fSc_1
    refine fV_aload_n (pc' := 20) G 0 dX3_setSpeed_19 rfl rfl rfl ?_
    refine fV_get (K := 3) (v := .ref (Γ.1 1)) (pc' := 23) G kfX3_setSpeed_10 (by omega) rfl rfl rfl dX3_setSpeed_20 rfl ?_
    refine fV_get (K := 0) (v := .int (i32 (I3 1 4))) (pc' := 26) G kfX3_setSpeed_97 (by omega) rfl rfl rfl dX3_setSpeed_23 rfl ?_
    refine fV_top (b := I 1 4) (by rw [hM1]) ?_
    refine fV_istore_n (lv' := [(2, .int (i32 (I 1 4))), (0, .ref (Γ.1 0)), (1, .int (i32 x))]) (pc' := 27) G dX3_setSpeed_26 rfl (by decide) rfl rfl ?_
    refine fV_aload_n (pc' := 28) G 1 dX3_setSpeed_27 rfl rfl rfl ?_
    refine fV_get (K := 3) (v := .ref (Γ.1 1)) (pc' := 31) G kfX3_setSpeed_10 (by omega) rfl rfl rfl dX3_setSpeed_28 rfl ?_
    refine fV_iload_n (pc' := 32) G 2 dX3_setSpeed_31 rfl rfl rfl ?_
    refine fV_put (K := 0) (jj := 4) (x := x) (v := .int (i32 x)) (ty := .int) (pc' := 35) G kfX3_setSpeed_97 (by omega) rfl rfl rfl kp0_4 rfl rfl (Nat.le_of_ble_eq_true rfl) dX3_setSpeed_32 rfl (fun I6 eI6 => ?_)
    refine fV_iload_n (pc' := 36) G 0 dX3_setSpeed_35 rfl rfl rfl ?_
    refine fV_iret G dX3_setSpeed_36 ?_
    exact ⟨by unfold qXSpeed; rw [if_pos (by omega)], Or.inl ⟨by omega, I3, P4, hrec, eI6, rfl⟩⟩
  · have d1 : ¬ (50 ≤ x ∧ x ≤ 400) := of_decide_eq_false c1
    refine fV_bipush (n := -11) (pc' := 14) G dX3_setSpeed_12 rfl rfl ?_
    refine fV_iret G dX3_setSpeed_14 ?_
    exact ⟨by unfold qXSpeed; rw [if_neg (by omega)], Or.inr ⟨by omega, rfl, rfl⟩⟩
set_option maxHeartbeats 4000000 in
set_option maxRecDepth 100000 in
theorem mX3_append (l : Launch) (Γ : fG) {N : Nat} (hN : 214 ≤ N) (I : fM) (P : fN) (hx : xAll I P) (x : Int) (h_x : -2147483648 ≤ x ∧ x ≤ 2147483647) : fMet l yX3_append wsX3_append rmX3_append Γ N [.ref (Γ.1 0), .int (i32 x)] I P (fE (some (.int (i32 (qXApp I x)))) (gXApp I x) P) := by
  refine fMet_of (own := RX3) (cc := cX3_append) (maxL := 2) (ret := (some .int)) rfl (by decide +kernel) rfl (Nat.le_of_ble_eq_true rfl) ?_
  intro p e s m args below meth c G
  have ho := xAll_ok hx
  obtain ⟨hv, hp, hww, hst, htl⟩ := id ho
  obtain ⟨hv1, hv3, hv4, hvs⟩ := id hv
  obtain ⟨⟨-, -, hdi⟩, hpa, hhs, hhist, -, -⟩ := id hx
  have hz1 : ∀ w : Int, 0 ≤ w → w < I 1 1 → I (P (1 + 1) w) 6 = 0 ∨ I (P (1 + 1) w) 6 = 1 := fun w h0 h1 => (hww w h0 h1).2.2.2.2.2.1
  refine fV_lv (lv' := [(0, .ref (Γ.1 0)), (1, .int (i32 x))]) [0, 1] rfl ?_
  refine fV_iload_n (pc' := 1) G 1 dX3_append_0 rfl rfl rfl ?_
  refine fV_iconst (pc' := 2) G dX3_append_1 rfl ?_
  refine fV_sipush (n := 255) (pc' := 5) G dX3_append_2 rfl rfl ?_
  refine fV_callSf (st' := [.int (i32 (fB (sBetw x 1 255)))]) (n := 3) (As := [.int (i32 x), .int (i32 1), .int (i32 255)]) (rest := []) (pc' := 8) G (mX3_isBetween l Γ hN I P x 1 255 (by omega) (by omega) (by omega)) kcX3_append_34 rfl rfl (Nat.le_of_ble_eq_true rfl) (Nat.zero_le _) (Nat.zero_le _) dX3_append_5 rfl rfl ?_
  refine fV_ifne_b (tgt := 14) (pc' := 11) G dX3_append_8 (by decide) rfl (fun c1 => ?_) (fun c1 => ?_)
  · have d1 : (1 ≤ x ∧ x ≤ 255) := of_decide_eq_true c1
    refine fV_aload_n (pc' := 15) G 0 dX3_append_14 rfl rfl rfl ?_
    refine fV_get (K := 3) (v := .ref (Γ.1 212)) (pc' := 18) G kfX3_append_30 (by omega) rfl rfl rfl dX3_append_15 rfl ?_
    refine fV_get (K := 1) (v := .int (i32 (I 212 1))) (pc' := 21) G kfX3_append_100 (by omega) rfl rfl rfl dX3_append_18 rfl ?_
    refine fV_sipush (n := 160) (pc' := 24) G dX3_append_21 rfl rfl ?_
    refine fV_icmp_lt (tgt := 30) (pc' := 27) G dX3_append_24 (by decide) rfl (by omega) (by decide) (fun c2 => ?_) (fun c2 => ?_)
    · refine fV_aload_n (pc' := 31) G 0 dX3_append_30 rfl rfl rfl ?_
      refine fV_get (K := 3) (v := .ref (Γ.1 212)) (pc' := 34) G kfX3_append_30 (by omega) rfl rfl rfl dX3_append_31 rfl ?_
      refine fV_get (K := 1) (v := .ref (Γ.1 213)) (pc' := 37) G kfX3_append_103 (by omega) rfl rfl rfl dX3_append_34 rfl ?_
      refine fV_aload_n (pc' := 38) G 0 dX3_append_37 rfl rfl rfl ?_
      refine fV_get (K := 3) (v := .ref (Γ.1 212)) (pc' := 41) G kfX3_append_30 (by omega) rfl rfl rfl dX3_append_38 rfl ?_
      refine fV_get (K := 1) (v := .int (i32 (I 212 1))) (pc' := 44) G kfX3_append_100 (by omega) rfl rfl rfl dX3_append_41 rfl ?_
      refine fV_iload_n (pc' := 45) G 1 dX3_append_44 rfl rfl rfl ?_
      refine fV_iast (K := 7) (n := 160) (pc' := 46) G (by omega) rfl (fun _ _ => rfl) (by decide) (by omega) dX3_append_45 rfl (fun I3 eI3 => ?_)
      refine fV_aload_n (pc' := 47) G 0 dX3_append_46 rfl rfl rfl ?_
      refine fV_get (K := 3) (v := .ref (Γ.1 212)) (pc' := 50) G kfX3_append_30 (by omega) rfl rfl rfl dX3_append_47 rfl ?_
      refine fV_dup (pc' := 51) G dX3_append_50 rfl rfl ?_
      refine fV_get (K := 1) (v := .int (i32 (I3 212 1))) (pc' := 54) G kfX3_append_100 (by omega) rfl rfl rfl dX3_append_51 rfl ?_
      refine fV_top (b := I 212 1) (by rw [eI3, fup_k (by decide)]) ?_
      refine fV_iconst (pc' := 55) G dX3_append_54 rfl ?_
      refine fV_iadd (pc' := 56) G dX3_append_55 rfl ?_
      refine fV_put (K := 1) (jj := 1) (x := (I 212 1) + 1) (v := .int (i32 ((I 212 1) + 1))) (ty := .int) (pc' := 59) G kfX3_append_100 (by omega) rfl rfl rfl kp1_1 rfl rfl (Nat.le_of_ble_eq_true rfl) dX3_append_56 rfl (fun I4 eI4 => ?_)
      refine fV_aload_n (pc' := 60) G 0 dX3_append_59 rfl rfl rfl ?_
      refine fV_get (K := 3) (v := .ref (Γ.1 212)) (pc' := 63) G kfX3_append_30 (by omega) rfl rfl rfl dX3_append_60 rfl ?_
      refine fV_get (K := 1) (v := .int (i32 (I4 212 1))) (pc' := 66) G kfX3_append_100 (by omega) rfl rfl rfl dX3_append_63 rfl ?_
      refine fV_top (b := I 212 1 + 1) (by rw [eI4, fup_s]) ?_
      refine fV_iret G dX3_append_66 ?_
      exact fE_im (by unfold qXApp; rw [if_pos (by omega), if_neg (by omega)]) (by unfold gXApp; rw [if_pos ⟨by omega, by omega⟩, eI4, eI3]) rfl
    · refine fV_bipush (n := -13) (pc' := 29) G dX3_append_27 rfl rfl ?_
      refine fV_iret G dX3_append_29 ?_
      exact fE_im (by unfold qXApp; (split <;> first | rfl | omega | (split <;> first | rfl | omega | (split <;> first | rfl | omega | (split <;> first | rfl | omega | (split <;> first | rfl | omega | (split <;> first | rfl | omega | (split <;> first | rfl | omega)))))))) (by unfold gXApp; rw [if_neg (by omega)]) rfl
  · have d1 : ¬ (1 ≤ x ∧ x ≤ 255) := of_decide_eq_false c1
    refine fV_bipush (n := -11) (pc' := 13) G dX3_append_11 rfl rfl ?_
    refine fV_iret G dX3_append_13 ?_
    exact fE_im (by unfold qXApp; (split <;> first | rfl | omega | (split <;> first | rfl | omega | (split <;> first | rfl | omega | (split <;> first | rfl | omega | (split <;> first | rfl | omega | (split <;> first | rfl | omega | (split <;> first | rfl | omega)))))))) (by unfold gXApp; rw [if_neg (by omega)]) rfl
set_option maxHeartbeats 4000000 in
set_option maxRecDepth 100000 in
theorem mX3_take (l : Launch) (Γ : fG) {N : Nat} (hN : 214 ≤ N) (I : fM) (P : fN) (hx : xAll I P) (w : Int) (h_w : -2147483648 ≤ w ∧ w ≤ 2147483647) : fMet l yX3_take wsX3_take rmX3_take Γ N [.ref (Γ.1 0), .int (i32 w)] I P (fun v J Q => v = some (.int (i32 (if 0 ≤ w ∧ w < I 1 1 then (if I (P 2 w) 6 = 1 then xCnt J Q else -12) else -11))) ∧ xAct I P J Q ((0 ≤ w ∧ w < I 1 1) ∧ I (P 2 w) 6 = 1) (fun M N => J = fup M (N 2 w) 6 0 ∧ Q = N)) := by
  refine fMet_of (own := RX3) (cc := cX3_take) (maxL := 2) (ret := (some .int)) rfl (by decide +kernel) rfl (Nat.le_of_ble_eq_true rfl) ?_
  intro p e s m args below meth c G
  have ho := xAll_ok hx
  obtain ⟨hv, hp, hww, hst, htl⟩ := id ho
  obtain ⟨hv1, hv3, hv4, hvs⟩ := id hv
  obtain ⟨⟨-, -, hdi⟩, hpa, hhs, hhist, -, -⟩ := id hx
  have hz1 : ∀ w : Int, 0 ≤ w → w < I 1 1 → I (P (1 + 1) w) 6 = 0 ∨ I (P (1 + 1) w) 6 = 1 := fun w h0 h1 => (hww w h0 h1).2.2.2.2.2.1
  refine fV_lv (lv' := [(0, .ref (Γ.1 0)), (1, .int (i32 w))]) [0, 1] rfl ?_
  refine fV_aload_n (pc' := 1) G 0 dX3_take_0 rfl rfl rfl ?_
  refine fV_get (K := 3) (v := .ref (Γ.1 1)) (pc' := 4) G kfX3_take_10 (by omega) rfl rfl rfl dX3_take_1 rfl ?_
  refine fV_iload_n (pc' := 5) G 1 dX3_take_4 rfl rfl rfl ?_
  refine fV_callVf (st' := [.int (i32 (fB (decide (0 ≤ w ∧ w < I 1 1))))]) (n := 1) (k := 1) (K := 0) (As := [.int (i32 w)]) (rest := []) (pc' := 8) G (mX0_hasWord l Γ hN I P fSc_1 hv1 w (by omega)) kcX3_take_56 (by omega) rfl rfl rfl rfl (Nat.le_of_ble_eq_true rfl) (Nat.zero_le _) (Nat.zero_le _) dX3_take_5 rfl rfl ?_
  refine fV_ifne_b (tgt := 14) (pc' := 11) G dX3_take_8 (by decide) rfl (fun c1 => ?_) (fun c1 => ?_)
  · have d1 : (0 ≤ w ∧ w < I 1 1) := of_decide_eq_true c1
    refine fV_aload_n (pc' := 15) G 0 dX3_take_14 rfl rfl rfl ?_
    refine fV_get (K := 3) (v := .ref (Γ.1 1)) (pc' := 18) G kfX3_take_10 (by omega) rfl rfl rfl dX3_take_15 rfl ?_
    refine fV_get (K := 0) (v := .ref (Γ.1 2)) (pc' := 21) G kfX3_take_64 (by omega) rfl rfl rfl dX3_take_18 rfl ?_
    refine fV_iload_n (pc' := 22) G 1 dX3_take_21 rfl rfl rfl ?_
    refine fV_aald (K := 11) (n := 12) (t := 1) (pc' := 23) G (by omega) rfl (fun _ _ => rfl) rfl (by decide) (by omega) dX3_take_22 rfl ?_
    have hz9 := hz1 w (by omega) (by omega)
    rw [show P (1 + 1) w = P 2 w from rfl] at hz9
    refine fV_get (K := 2) (v := .int (i32 (I (P 2 w) 6))) (pc' := 26) G kfX3_take_78 (by have z9 : P 2 w + 1 < 212 := (fPs_w fSc_1 hp (by omega) (by omega)).1; omega) (fPs_w fSc_1 hp (w := w) (by omega) (by omega)).2.1 rfl rfl dX3_take_23 rfl ?_
    refine fV_if_ne (tgt := 32) (pc' := 29) G dX3_take_26 (by decide) rfl (by omega) (fun c2 => ?_) (fun c2 => ?_)
    · refine fV_aload_n (pc' := 33) G 0 dX3_take_32 rfl rfl rfl ?_
      refine fV_callV (n := 0) (k := 0) (K := 3) (As := []) (rest := []) (pc' := 36) G (mX3_record l Γ hN I P hst hhs hpa hv1 hz1) kcX3_take_46 (by omega) rfl rfl rfl rfl (Nat.le_of_ble_eq_true rfl) (Nat.zero_le _) (Nat.zero_le _) dX3_take_33 rfl (fun v3 I4 P5 h6 => ?_)
      obtain ⟨h6v, hrec⟩ := h6
      refine fV_st (st' := []) (by rw [h6v]; rfl) ?_
      have hM1 : I4 1 = I 1 := xRec_o hhs hst hrec (by decide) (by decide)
      have hM3 : I4 3 = I 3 := xRec_o hhs hst hrec (by decide) (by decide)
      have hMw : ∀ w : Int, 0 ≤ w → w < 12 → I4 (P 2 w) = I (P 2 w) := fun w h0 h1 => (xRec_w hp hhs hst hrec h0 h1).1
      have hMv : fSv I4 1 := xRec_v hv hhs hst hrec
      have hN2 : P5 2 = P 2 := xRec_2 hrec
      have hpaN : fPa P5 := xRec_p hpa hrec
      have hpN : fPs P5 1 := hpaN 1 fSc_1
      refine fV_aload_n (pc' := 37) G 0 dX3_take_36 rfl rfl rfl ?_
      refine fV_get (K := 3) (v := .ref (Γ.1 1)) (pc' := 40) G kfX3_take_10 (by omega) rfl rfl rfl dX3_take_37 rfl ?_
      refine fV_get (K := 0) (v := .ref (Γ.1 2)) (pc' := 43) G kfX3_take_64 (by omega) rfl rfl rfl dX3_take_40 rfl ?_
      refine fV_iload_n (pc' := 44) G 1 dX3_take_43 rfl rfl rfl ?_
      refine fV_aald (K := 11) (n := 12) (t := 1) (pc' := 45) G (by omega) rfl (fun _ _ => rfl) rfl (by decide) (by omega) dX3_take_44 rfl ?_
      refine fV_iconst (pc' := 46) G dX3_take_45 rfl ?_
      refine fV_put (K := 2) (jj := 6) (x := 0) (v := .int (i32 0)) (ty := .boolean) (pc' := 49) G kfX3_take_78 (by have z9 : P5 2 w + 1 < 212 := (fPs_w fSc_1 hpN (by omega) (by omega)).1; omega) (fPs_w fSc_1 hpN (w := w) (by omega) (by omega)).2.1 rfl rfl kp2_6 rfl rfl (Nat.le_of_ble_eq_true rfl) dX3_take_46 rfl (fun I7 eI7 => ?_)
      refine fV_aload_n (pc' := 50) G 0 dX3_take_49 rfl rfl rfl ?_
      refine fV_get (K := 3) (v := .ref (Γ.1 1)) (pc' := 53) G kfX3_take_10 (by omega) rfl rfl rfl dX3_take_50 rfl ?_
      obtain ⟨j9, h9, e9⟩ := hpN.1 w (by omega) (by omega)
      have hk9 : P5 2 w = 1 + 6 + 2 * j9 := e9
      have hJ1 : I7 1 = I 1 := by rw [eI7, fup_ne (by omega), hM1]
      have hJv : fSv I7 1 := by unfold fSv; rw [hJ1, eI7, fup_ne (by omega), show (1 + 2 : Nat) = 3 from rfl, hM3]; exact hv
      have hJw : ∀ v : Int, 0 ≤ v → v < I7 1 1 → fWv I7 (P5 (1 + 1) v) := fun v h0 h1 => by rw [hJ1] at h1; rw [show P5 (1 + 1) v = P5 2 v from rfl, hN2]; have hv9 := hww v h0 h1; have hv8 : fWv I4 (P 2 v) := (by unfold fWv; rw [hMw v h0 (by omega)]; exact hv9); rw [eI7]; exact fWv_off hv8
      refine fV_callVf (st' := [.int (i32 (xCnt I7 P5))]) (n := 0) (k := 1) (K := 0) (As := []) (rest := []) (pc' := 56) G (mX0_countPut l Γ hN I7 P5 fSc_1 hJv hpN hJw) kcX3_take_128 (by omega) rfl rfl rfl rfl (Nat.le_of_ble_eq_true rfl) (Nat.zero_le _) (Nat.zero_le _) dX3_take_53 rfl rfl ?_
      refine fV_iret G dX3_take_56 ?_
      exact ⟨by rw [if_pos (by omega), if_pos (by omega)], Or.inl ⟨⟨by omega, by omega⟩, I4, P5, hrec, eI7, rfl⟩⟩
    · refine fV_bipush (n := -12) (pc' := 31) G dX3_take_29 rfl rfl ?_
      refine fV_iret G dX3_take_31 ?_
      exact ⟨by (split <;> first | rfl | omega | (split <;> first | rfl | omega | (split <;> first | rfl | omega | (split <;> first | rfl | omega | (split <;> first | rfl | omega | (split <;> first | rfl | omega | (split <;> first | rfl | omega))))))), Or.inr ⟨by omega, rfl, rfl⟩⟩
  · have d1 : ¬ (0 ≤ w ∧ w < I 1 1) := of_decide_eq_false c1
    refine fV_bipush (n := -11) (pc' := 13) G dX3_take_11 rfl rfl ?_
    refine fV_iret G dX3_take_13 ?_
    exact ⟨by (split <;> first | rfl | omega | (split <;> first | rfl | omega | (split <;> first | rfl | omega | (split <;> first | rfl | omega | (split <;> first | rfl | omega | (split <;> first | rfl | omega | (split <;> first | rfl | omega))))))), Or.inr ⟨by omega, rfl, rfl⟩⟩
set_option maxHeartbeats 4000000 in
set_option maxRecDepth 100000 in
theorem mX3_put (l : Launch) (Γ : fG) {N : Nat} (hN : 214 ≤ N) (I : fM) (P : fN) (hx : xAll I P) (w la co : Int) (h_w : -2147483648 ≤ w ∧ w ≤ 2147483647) (h_la : -2147483648 ≤ la ∧ la ≤ 2147483647) (h_co : -2147483648 ≤ co ∧ co ≤ 2147483647) : fMet l yX3_put wsX3_put rmX3_put Γ N [.ref (Γ.1 0), .int (i32 w), .int (i32 la), .int (i32 co)] I P (fun v J Q => (xPl I P w la co ∧ xFree I P 1 w (I (P 2 w) 2) la co ∧ v = some (.int (i32 (xCnt J Q))) ∧ ∃ I2 M N, tEq I I2 1 ∧ xRec I2 P M N ∧ J = xPutM M (N 2 w) la co ∧ Q = N) ∨ (xPl I P w la co ∧ ¬ xFree I P 1 w (I (P 2 w) 2) la co ∧ v = some (.int (i32 (-12))) ∧ tEq I J 1 ∧ Q = P) ∨ (¬ xPl I P w la co ∧ v = some (.int (i32 (-11))) ∧ J = I ∧ Q = P)) := by
  refine fMet_of (own := RX3) (cc := cX3_put) (maxL := 5) (ret := (some .int)) rfl (by decide +kernel) rfl (Nat.le_of_ble_eq_true rfl) ?_
  intro p e s m args below meth c G
  have ho := xAll_ok hx
  obtain ⟨hv, hp, hww, hst, htl⟩ := id ho
  obtain ⟨hv1, hv3, hv4, hvs⟩ := id hv
  obtain ⟨⟨-, -, hdi⟩, hpa, hhs, hhist, -, -⟩ := id hx
  have hz1 : ∀ w : Int, 0 ≤ w → w < I 1 1 → I (P (1 + 1) w) 6 = 0 ∨ I (P (1 + 1) w) 6 = 1 := fun w h0 h1 => (hww w h0 h1).2.2.2.2.2.1
  refine fV_lv (lv' := [(0, .ref (Γ.1 0)), (1, .int (i32 w)), (2, .int (i32 la)), (3, .int (i32 co))]) [0, 1, 2, 3] rfl ?_
  refine fV_aload_n (pc' := 1) G 0 dX3_put_0 rfl rfl rfl ?_
  refine fV_iload_n (pc' := 2) G 1 dX3_put_1 rfl rfl rfl ?_
  refine fV_iload_n (pc' := 3) G 2 dX3_put_2 rfl rfl rfl ?_
  refine fV_iload_n (pc' := 4) G 3 dX3_put_3 rfl rfl rfl ?_
  refine fV_callVf (st' := [.int (i32 (fB (decide (xPl I P w la co))))]) (n := 3) (k := 0) (K := 3) (As := [.int (i32 w), .int (i32 la), .int (i32 co)]) (rest := []) (pc' := 7) G (mX3_isPossiblePlace l Γ hN I P ho w la co (by omega) (by omega) (by omega)) kcX3_put_115 (by omega) rfl rfl rfl rfl (Nat.le_of_ble_eq_true rfl) (Nat.zero_le _) (Nat.zero_le _) dX3_put_4 rfl rfl ?_
  refine fV_ifne_b (tgt := 13) (pc' := 10) G dX3_put_7 (by decide) rfl (fun c1 => ?_) (fun c1 => ?_)
  · have d1 : (xPl I P w la co) := of_decide_eq_true c1
    have hpl : xPl I P w la co := of_decide_eq_true c1
    refine fV_aload_n (pc' := 14) G 0 dX3_put_13 rfl rfl rfl ?_
    refine fV_get (K := 3) (v := .ref (Γ.1 1)) (pc' := 17) G kfX3_put_10 (by omega) rfl rfl rfl dX3_put_14 rfl ?_
    refine fV_get (K := 0) (v := .ref (Γ.1 2)) (pc' := 20) G kfX3_put_64 (by omega) rfl rfl rfl dX3_put_17 rfl ?_
    refine fV_iload_n (pc' := 21) G 1 dX3_put_20 rfl rfl rfl ?_
    refine fV_aald (K := 11) (n := 12) (t := 1) (pc' := 22) G (by omega) rfl (fun _ _ => rfl) rfl (by decide) (by omega) dX3_put_21 rfl ?_
    refine fV_astore (lv' := [(4, .ref (Γ.1 (P 2 w))), (0, .ref (Γ.1 0)), (1, .int (i32 w)), (2, .int (i32 la)), (3, .int (i32 co))]) (pc' := 24) G dX3_put_22 (by decide) rfl rfl ?_
    refine fV_aload_n (pc' := 25) G 1 dX3_put_24 rfl rfl rfl ?_
    refine fV_get (K := 3) (v := .ref (Γ.1 1)) (pc' := 28) G kfX3_put_10 (by omega) rfl rfl rfl dX3_put_25 rfl ?_
    refine fV_iload_n (pc' := 29) G 2 dX3_put_28 rfl rfl rfl ?_
    refine fV_aload (pc' := 31) G 0 dX3_put_29 rfl rfl ?_
    refine fV_get (K := 2) (v := .int (i32 (I (P 2 w) 2))) (pc' := 34) G kfX3_put_118 (by have z9 : P 2 w + 1 < 212 := (fPs_w fSc_1 hp (by omega) (by omega)).1; omega) (fPs_w fSc_1 hp (w := w) (by omega) (by omega)).2.1 rfl rfl dX3_put_31 rfl ?_
    refine fV_iload_n (pc' := 35) G 3 dX3_put_34 rfl rfl rfl ?_
    refine fV_iload_n (pc' := 36) G 4 dX3_put_35 rfl rfl rfl ?_
    obtain ⟨I2, eI2⟩ : ∃ J9 : fM, J9 = xTry I 1 (P (1 + 1) w) (I (P 2 w) 2) la co := ⟨_, rfl⟩
    refine fV_callVf (I' := I2) (st' := [.int (i32 (fB (xFreeB I P 1 w (I (P 2 w) 2) la co)))]) (n := 4) (k := 1) (K := 0) (As := [.int (i32 w), .int (i32 (I (P 2 w) 2)), .int (i32 la), .int (i32 co)]) (rest := []) (pc' := 39) G (by rw [eI2]; exact mX0_isFree l Γ hN I P fSc_1 hv hp hww w (I (P 2 w) 2) la co (by omega) (hww w (by omega) (by omega)).2.1 hpl.2.1 hpl.2.2) kcX3_put_121 (by omega) rfl rfl rfl rfl (Nat.le_of_ble_eq_true rfl) (Nat.zero_le _) (Nat.zero_le _) dX3_put_36 rfl rfl ?_
    refine fV_ifne_b (tgt := 45) (pc' := 42) G dX3_put_39 (by decide) rfl (fun c3 => ?_) (fun c3 => ?_)
    · have hfre := xFreeB_iff.mp c3
      have hte : tEq I I2 1 := by rw [eI2]; exact tEq_try (fun _ _ _ => rfl)
      have hI1 : I2 1 = I 1 := hte 1 (by decide) (by decide)
      have hI3 : I2 3 = I 3 := hte 3 (by decide) (by decide)
      have hIw : ∀ w : Int, 0 ≤ w → w < 12 → I2 (P 2 w) = I (P 2 w) := fun w h0 h1 => by obtain ⟨j9, h9, e9⟩ := hp.1 w h0 h1; have e8 : P 2 w = 1 + 6 + 2 * j9 := e9; exact hte _ (by omega) (by omega)
      have hst2 : 0 ≤ I2 0 3 ∧ I2 0 3 ≤ 5 := by rw [hte 0 (by decide) (by decide)]; exact hst
      refine fV_aload_n (pc' := 46) G 1 dX3_put_45 rfl rfl rfl ?_
      refine fV_callV (n := 0) (k := 0) (K := 3) (As := []) (rest := []) (pc' := 49) G (mX3_record l Γ hN I2 P hst2 hhs hpa (by rw [hI1]; exact hv1) (fun w h0 h1 => by rw [hI1] at h1; rw [show P (1 + 1) w = P 2 w from rfl, hIw w h0 (by omega)]; exact hz1 w h0 h1)) kcX3_put_46 (by omega) rfl rfl rfl rfl (Nat.le_of_ble_eq_true rfl) (Nat.zero_le _) (Nat.zero_le _) dX3_put_46 rfl (fun v4 I5 P6 h7 => ?_)
      obtain ⟨h7v, hrec⟩ := h7
      refine fV_st (st' := []) (by rw [h7v]; rfl) ?_
      have hM1 : I5 1 = I 1 := by rw [xRec_o hhs hst2 hrec (by decide) (by decide), hI1]
      have hM3 : I5 3 = I 3 := by rw [xRec_o hhs hst2 hrec (by decide) (by decide), hI3]
      have hMw : ∀ w : Int, 0 ≤ w → w < 12 → I5 (P 2 w) = I (P 2 w) := fun w h0 h1 => by rw [(xRec_w hp hhs hst2 hrec h0 h1).1, hIw w h0 h1]
      have hMv : fSv I5 1 := xRec_v (by unfold fSv; rw [hI1, show (1 + 2 : Nat) = 3 from rfl, hI3]; exact hv) hhs hst2 hrec
      have hN2 : P6 2 = P 2 := xRec_2 hrec
      have hpaN : fPa P6 := xRec_p hpa hrec
      have hpN : fPs P6 1 := hpaN 1 fSc_1
      refine fV_aload (pc' := 51) G 0 dX3_put_49 rfl rfl ?_
      refine fV_iload_n (pc' := 52) G 3 dX3_put_51 rfl rfl rfl ?_
      refine fV_iload_n (pc' := 53) G 4 dX3_put_52 rfl rfl rfl ?_
      obtain ⟨I8, eI8⟩ : ∃ J9 : fM, J9 = xPutM I5 (P 2 w) la co := ⟨_, rfl⟩
      refine fV_callVf (I' := I8) (st' := []) (n := 2) (k := (P 2 w)) (K := 2) (As := [.int (i32 la), .int (i32 co)]) (rest := []) (pc' := 56) G (by rw [eI8]; exact mX2_putAt l Γ hN I5 P6 (fPs_w fSc_1 hp (by omega) (by omega)) la co) kcX3_put_125 (by have z9 : P 2 w + 1 < 212 := (fPs_w fSc_1 hp (by omega) (by omega)).1; omega) (fPs_w fSc_1 hp (w := w) (by omega) (by omega)).2.1 rfl rfl rfl (Nat.le_of_ble_eq_true rfl) (Nat.zero_le _) (Nat.zero_le _) dX3_put_53 rfl rfl ?_
      refine fV_aload_n (pc' := 57) G 1 dX3_put_56 rfl rfl rfl ?_
      refine fV_get (K := 3) (v := .ref (Γ.1 1)) (pc' := 60) G kfX3_put_10 (by omega) rfl rfl rfl dX3_put_57 rfl ?_
      have hkN : P 2 w = P6 2 w := by rw [hN2]
      obtain ⟨j9, h9, e9⟩ := hp.1 w (by omega) (by omega)
      have hk9 : P 2 w = 1 + 6 + 2 * j9 := e9
      have hJ1 : I8 1 = I 1 := by rw [eI8, xPutM_ne (by omega), hM1]
      have hJv : fSv I8 1 := by unfold fSv; rw [hJ1, eI8, xPutM_ne (by omega), show (1 + 2 : Nat) = 3 from rfl, hM3]; exact hv
      have hJw : ∀ v : Int, 0 ≤ v → v < I8 1 1 → fWv I8 (P6 (1 + 1) v) := fun v h0 h1 => by rw [hJ1] at h1; rw [show P6 (1 + 1) v = P6 2 v from rfl, hN2]; have hv9 := hww v h0 h1; have hv8 : fWv I5 (P 2 v) := (by unfold fWv; rw [hMw v h0 (by omega)]; exact hv9); rw [eI8]; exact fWv_put hv8 hpl.2.1 hpl.2.2.1 (fun z => by rw [z, hMw w (by omega) (by omega)]; exact hpl.2.2.2)
      refine fV_callVf (st' := [.int (i32 (xCnt I8 P6))]) (n := 0) (k := 1) (K := 0) (As := []) (rest := []) (pc' := 63) G (mX0_countPut l Γ hN I8 P6 fSc_1 hJv hpN hJw) kcX3_put_128 (by omega) rfl rfl rfl rfl (Nat.le_of_ble_eq_true rfl) (Nat.zero_le _) (Nat.zero_le _) dX3_put_60 rfl rfl ?_
      refine fV_iret G dX3_put_63 ?_
      exact Or.inl ⟨hpl, hfre, rfl, I2, I5, P6, hte, hrec, by rw [eI8, hkN], rfl⟩
    · have hnf : ¬ xFree I P 1 w (I (P 2 w) 2) la co := fun z => by rw [xFreeB_t z] at c3; cases c3
      refine fV_bipush (n := -12) (pc' := 44) G dX3_put_42 rfl rfl ?_
      refine fV_iret G dX3_put_44 ?_
      exact Or.inr (Or.inl ⟨hpl, hnf, rfl, by rw [eI2]; exact tEq_try (fun _ _ _ => rfl), rfl⟩)
  · have d1 : ¬ (xPl I P w la co) := of_decide_eq_false c1
    have hnpl : ¬ xPl I P w la co := of_decide_eq_false c1
    refine fV_bipush (n := -11) (pc' := 12) G dX3_put_10 rfl rfl ?_
    refine fV_iret G dX3_put_12 ?_
    exact Or.inr (Or.inr ⟨hnpl, rfl, rfl, rfl⟩)
set_option maxHeartbeats 4000000 in
set_option maxRecDepth 100000 in
theorem mX3_earliest (l : Launch) (Γ : fG) {N : Nat} (hN : 214 ≤ N) (I : fM) (P : fN) (hx : xAll I P) (w la co : Int) (h_w : -2147483648 ≤ w ∧ w ≤ 2147483647) (h_la : -2147483648 ≤ la ∧ la ≤ 2147483647) (h_co : -2147483648 ≤ co ∧ co ≤ 2147483647) : fMet l yX3_earliest wsX3_earliest rmX3_earliest Γ N [.ref (Γ.1 0), .int (i32 w), .int (i32 la), .int (i32 co)] I P (fun v J Q => v = some (.int (i32 (qXEar I P w la co))) ∧ tEq I J 1 ∧ Q = P) := by
  refine fMet_of (own := RX3) (cc := cX3_earliest) (maxL := 5) (ret := (some .int)) rfl (by decide +kernel) rfl (Nat.le_of_ble_eq_true rfl) ?_
  intro p e s m args below meth c G
  have ho := xAll_ok hx
  obtain ⟨hv, hp, hww, hst, htl⟩ := id ho
  obtain ⟨hv1, hv3, hv4, hvs⟩ := id hv
  obtain ⟨⟨-, -, hdi⟩, hpa, hhs, hhist, -, -⟩ := id hx
  have hz1 : ∀ w : Int, 0 ≤ w → w < I 1 1 → I (P (1 + 1) w) 6 = 0 ∨ I (P (1 + 1) w) 6 = 1 := fun w h0 h1 => (hww w h0 h1).2.2.2.2.2.1
  refine fV_lv (lv' := [(0, .ref (Γ.1 0)), (1, .int (i32 w)), (2, .int (i32 la)), (3, .int (i32 co))]) [0, 1, 2, 3] rfl ?_
  refine fV_aload_n (pc' := 1) G 0 dX3_earliest_0 rfl rfl rfl ?_
  refine fV_iload_n (pc' := 2) G 1 dX3_earliest_1 rfl rfl rfl ?_
  refine fV_iload_n (pc' := 3) G 2 dX3_earliest_2 rfl rfl rfl ?_
  refine fV_iload_n (pc' := 4) G 3 dX3_earliest_3 rfl rfl rfl ?_
  refine fV_callVf (st' := [.int (i32 (fB (decide (xPl I P w la co))))]) (n := 3) (k := 0) (K := 3) (As := [.int (i32 w), .int (i32 la), .int (i32 co)]) (rest := []) (pc' := 7) G (mX3_isPossiblePlace l Γ hN I P ho w la co (by omega) (by omega) (by omega)) kcX3_earliest_115 (by omega) rfl rfl rfl rfl (Nat.le_of_ble_eq_true rfl) (Nat.zero_le _) (Nat.zero_le _) dX3_earliest_4 rfl rfl ?_
  refine fV_ifne_b (tgt := 13) (pc' := 10) G dX3_earliest_7 (by decide) rfl (fun c1 => ?_) (fun c1 => ?_)
  · have d1 : (xPl I P w la co) := of_decide_eq_true c1
    have hpl : xPl I P w la co := of_decide_eq_true c1
    have hw2 := (hww w (by omega) (by omega)).2.1
    refine fV_aload_n (pc' := 14) G 0 dX3_earliest_13 rfl rfl rfl ?_
    refine fV_get (K := 3) (v := .ref (Γ.1 1)) (pc' := 17) G kfX3_earliest_10 (by omega) rfl rfl rfl dX3_earliest_14 rfl ?_
    refine fV_get (K := 0) (v := .ref (Γ.1 2)) (pc' := 20) G kfX3_earliest_64 (by omega) rfl rfl rfl dX3_earliest_17 rfl ?_
    refine fV_iload_n (pc' := 21) G 1 dX3_earliest_20 rfl rfl rfl ?_
    refine fV_aald (K := 11) (n := 12) (t := 1) (pc' := 22) G (by omega) rfl (fun _ _ => rfl) rfl (by decide) (by omega) dX3_earliest_21 rfl ?_
    refine fV_get (K := 2) (v := .int (i32 (I (P 2 w) 2))) (pc' := 25) G kfX3_earliest_118 (by have z9 : P 2 w + 1 < 212 := (fPs_w fSc_1 hp (by omega) (by omega)).1; omega) (fPs_w fSc_1 hp (w := w) (by omega) (by omega)).2.1 rfl rfl dX3_earliest_22 rfl ?_
    refine fV_istore (lv' := [(4, .int (i32 (I (P 2 w) 2))), (0, .ref (Γ.1 0)), (1, .int (i32 w)), (2, .int (i32 la)), (3, .int (i32 co))]) (pc' := 27) G dX3_earliest_25 (by decide) rfl rfl ?_
    have lp : ∀ (z : Nat) (f : Int) (J : fM), I (P 2 w) 2 ≤ f ∧ f ≤ 2001 → tEq I J 1 → f ≤ xEarF I P w la co → ((2001 - f).toNat) = z → fV p l e rmX3_earliest s m args below meth c (MQ below (fQ Γ N (fun v J Q => v = some (.int (i32 (qXEar I P w la co))) ∧ tEq I J 1 ∧ Q = P)) args s 0 0 (fA Γ N)) (fA Γ N) Γ N 5 0 0 J P 27 [(0, .ref (Γ.1 0)), (1, .int (i32 w)), (2, .int (i32 la)), (3, .int (i32 co)), (4, .int (i32 f))] [] := by
      intro z
      induction z using Nat.strongRecOn with
      | _ z ih_lp =>
        intro f J hf hJ hr hz_lp
        have hJ1 : J 1 = I 1 := hJ 1 (by decide) (by decide)
        have hJ3 : J 3 = I 3 := hJ 3 (by decide) (by decide)
        have hJr : ∀ v : Int, 0 ≤ v → v < 12 → J (P 2 v) = I (P 2 v) := fun v h0 h1 => by obtain ⟨j9, h9, e9⟩ := hp.1 v h0 h1; have e8 : P 2 v = 1 + 6 + 2 * j9 := e9; exact hJ _ (by omega) (by omega)
        have hJk : J (P 2 w) = I (P 2 w) := hJr w (by omega) (by omega)
        have hJv : fSv J 1 := by unfold fSv; rw [hJ1, show (1 + 2 : Nat) = 3 from rfl, hJ3]; exact hv
        have hJw : ∀ v : Int, 0 ≤ v → v < J 1 1 → fWv J (P (1 + 1) v) := fun v h0 h1 => by rw [hJ1] at h1; rw [show P (1 + 1) v = P 2 v from rfl]; unfold fWv; rw [hJr v h0 (by omega)]; exact hww v h0 h1
        refine fV_iload (pc' := 29) G 4 dX3_earliest_27 rfl rfl ?_
        refine fV_sipush (n := 2000) (pc' := 32) G dX3_earliest_29 rfl rfl ?_
        refine fV_icmp_gt (tgt := 59) (pc' := 35) G dX3_earliest_32 (by decide) rfl (by omega) (by decide) (fun c102 => ?_) (fun c102 => ?_)
        · refine fV_bipush (n := -19) (pc' := 61) G dX3_earliest_59 rfl rfl ?_
          refine fV_iret G dX3_earliest_61 ?_
          exact ⟨by unfold qXEar; rw [if_pos hpl, show xEarF I P w la co = 2001 from isF_end (sF_is (c := fun f => xFree I P 1 w f la co) (a := I (P 2 w) 2) (b := 2001) (by omega)) hr (by omega), if_neg (by decide)], hJ, rfl⟩
        · refine fV_aload_n (pc' := 36) G 0 dX3_earliest_35 rfl rfl rfl ?_
          refine fV_get (K := 3) (v := .ref (Γ.1 1)) (pc' := 39) G kfX3_earliest_10 (by omega) rfl rfl rfl dX3_earliest_36 rfl ?_
          refine fV_iload_n (pc' := 40) G 1 dX3_earliest_39 rfl rfl rfl ?_
          refine fV_iload (pc' := 42) G 4 dX3_earliest_40 rfl rfl ?_
          refine fV_iload_n (pc' := 43) G 2 dX3_earliest_42 rfl rfl rfl ?_
          refine fV_iload_n (pc' := 44) G 3 dX3_earliest_43 rfl rfl rfl ?_
          obtain ⟨I103, eI103⟩ : ∃ J9 : fM, J9 = xTry J 1 (P (1 + 1) w) f la co := ⟨_, rfl⟩
          refine fV_callVf (I' := I103) (st' := [.int (i32 (fB (xFreeB J P 1 w f la co)))]) (n := 4) (k := 1) (K := 0) (As := [.int (i32 w), .int (i32 f), .int (i32 la), .int (i32 co)]) (rest := []) (pc' := 47) G (by rw [eI103]; exact mX0_isFree l Γ hN J P fSc_1 hJv hp hJw w f la co (by rw [hJ1]; omega) (by omega) hpl.2.1 (by rw [show P (1 + 1) w = P 2 w from rfl, hJk]; exact hpl.2.2)) kcX3_earliest_121 (by omega) rfl rfl rfl rfl (Nat.le_of_ble_eq_true rfl) (Nat.zero_le _) (Nat.zero_le _) dX3_earliest_44 rfl rfl ?_
          refine fV_ifeq_b (tgt := 53) (pc' := 50) G dX3_earliest_47 (by decide) rfl (fun c104 => ?_) (fun c104 => ?_)
          · have hnf : ¬ xFree I P 1 w f la co := fun z => by rw [xFreeB_t ((tEq_free hp (by omega) hv1.2 hJ).mpr z)] at c104; cases c104
            refine fV_iinc (lv' := [(4, .int (i32 (f + 1))), (0, .ref (Γ.1 0)), (1, .int (i32 w)), (2, .int (i32 la)), (3, .int (i32 co))]) (pc' := 56) G 4 dX3_earliest_53 rfl (by decide) rfl rfl ?_
            refine fV_goto (tgt := 27) G dX3_earliest_56 (by decide) ?_
            refine fV_lv (lv' := [(0, .ref (Γ.1 0)), (1, .int (i32 w)), (2, .int (i32 la)), (3, .int (i32 co)), (4, .int (i32 (f + 1)))]) [1, 2, 3, 4, 0] rfl ?_
            exact ih_lp _ (by omega) (f + 1) I103 (by omega) (by rw [eI103]; exact tEq_try hJ) (isF_step (sF_is (by omega)) hr (by omega) hnf) rfl
          · have hfre : xFree I P 1 w f la co := (tEq_free hp (by omega) hv1.2 hJ).mp (xFreeB_iff.mp c104)
            refine fV_iload (pc' := 52) G 4 dX3_earliest_50 rfl rfl ?_
            refine fV_iret G dX3_earliest_52 ?_
            exact ⟨by unfold qXEar; rw [if_pos hpl, show xEarF I P w la co = f from isF_hit (sF_is (c := fun f => xFree I P 1 w f la co) (a := I (P 2 w) 2) (b := 2001) (by omega)) (by omega) hr hfre, if_pos (by omega)], by rw [eI103]; exact tEq_try hJ, rfl⟩
    refine fV_lv (lv' := [(0, .ref (Γ.1 0)), (1, .int (i32 w)), (2, .int (i32 la)), (3, .int (i32 co)), (4, .int (i32 (I (P 2 w) 2)))]) [1, 2, 3, 4, 0] rfl ?_
    exact lp _ (I (P 2 w) 2) I (by omega) (fun _ _ _ => rfl) ((sF_is (by omega)).1.1) rfl
  · have d1 : ¬ (xPl I P w la co) := of_decide_eq_false c1
    have hnpl : ¬ xPl I P w la co := of_decide_eq_false c1
    refine fV_bipush (n := -11) (pc' := 12) G dX3_earliest_10 rfl rfl ?_
    refine fV_iret G dX3_earliest_12 ?_
    exact ⟨by unfold qXEar; rw [if_neg hnpl], fun _ _ _ => rfl, rfl⟩
set_option maxHeartbeats 4000000 in
set_option maxRecDepth 100000 in
theorem mX3_undo (l : Launch) (Γ : fG) {N : Nat} (hN : 214 ≤ N) (I : fM) (P : fN) (hx : xAll I P) : fMet l yX3_undo wsX3_undo rmX3_undo Γ N [.ref (Γ.1 0)] I P (fun v J Q => (1 ≤ I 0 3 ∧ v = some (.int (i32 (I 0 3 - 1))) ∧ vEq I P (P 61 (I 0 3 - 1)) J P 1 ∧ fOut (fup I 0 3 (I 0 3 - 1)) J 1 ∧ Q = P) ∨ (¬ 1 ≤ I 0 3 ∧ v = some (.int (i32 (-12))) ∧ J = I ∧ Q = P)) := by
  refine fMet_of (own := RX3) (cc := cX3_undo) (maxL := 1) (ret := (some .int)) rfl (by decide +kernel) rfl (Nat.le_of_ble_eq_true rfl) ?_
  intro p e s m args below meth c G
  have ho := xAll_ok hx
  obtain ⟨hv, hp, hww, hst, htl⟩ := id ho
  obtain ⟨hv1, hv3, hv4, hvs⟩ := id hv
  obtain ⟨⟨-, -, hdi⟩, hpa, hhs, hhist, -, -⟩ := id hx
  have hz1 : ∀ w : Int, 0 ≤ w → w < I 1 1 → I (P (1 + 1) w) 6 = 0 ∨ I (P (1 + 1) w) 6 = 1 := fun w h0 h1 => (hww w h0 h1).2.2.2.2.2.1
  refine fV_lv (lv' := [(0, .ref (Γ.1 0))]) [0] rfl ?_
  refine fV_aload_n (pc' := 1) G 0 dX3_undo_0 rfl rfl rfl ?_
  refine fV_get (K := 3) (v := .int (i32 (I 0 3))) (pc' := 4) G kfX3_undo_23 (by omega) rfl rfl rfl dX3_undo_1 rfl ?_
  refine fV_iconst (pc' := 5) G dX3_undo_4 rfl ?_
  refine fV_icmp_ge (tgt := 11) (pc' := 8) G dX3_undo_5 (by decide) rfl (by omega) (by decide) (fun c1 => ?_) (fun c1 => ?_)
  · refine fV_aload_n (pc' := 12) G 0 dX3_undo_11 rfl rfl rfl ?_
    refine fV_dup (pc' := 13) G dX3_undo_12 rfl rfl ?_
    refine fV_get (K := 3) (v := .int (i32 (I 0 3))) (pc' := 16) G kfX3_undo_23 (by omega) rfl rfl rfl dX3_undo_13 rfl ?_
    refine fV_iconst (pc' := 17) G dX3_undo_16 rfl ?_
    refine fV_isub (pc' := 18) G dX3_undo_17 rfl ?_
    refine fV_put (K := 3) (jj := 3) (x := (I 0 3) - 1) (v := .int (i32 ((I 0 3) - 1))) (ty := .int) (pc' := 21) G kfX3_undo_23 (by omega) rfl rfl rfl kp3_3 rfl rfl (Nat.le_of_ble_eq_true rfl) dX3_undo_18 rfl (fun I2 eI2 => ?_)
    refine fV_aload_n (pc' := 22) G 0 dX3_undo_21 rfl rfl rfl ?_
    refine fV_get (K := 3) (v := .ref (Γ.1 1)) (pc' := 25) G kfX3_undo_10 (by omega) rfl rfl rfl dX3_undo_22 rfl ?_
    refine fV_aload_n (pc' := 26) G 0 dX3_undo_25 rfl rfl rfl ?_
    refine fV_get (K := 3) (v := .ref (Γ.1 61)) (pc' := 29) G kfX3_undo_19 (by omega) rfl rfl rfl dX3_undo_26 rfl ?_
    refine fV_aload_n (pc' := 30) G 0 dX3_undo_29 rfl rfl rfl ?_
    refine fV_get (K := 3) (v := .int (i32 (I2 0 3))) (pc' := 33) G kfX3_undo_23 (by omega) rfl rfl rfl dX3_undo_30 rfl ?_
    refine fV_top (b := I 0 3 - 1) (by rw [eI2, fup_s]) ?_
    have hsc := fHs_s hhs (w := I 0 3 - 1) (by omega) (by omega)
    have hok := hhist (I 0 3 - 1) (by omega) (by omega)
    have hbb := fHs_b hhs (w := I 0 3 - 1) (by omega) (by omega)
    refine fV_aald (K := 12) (n := 5) (t := 2) (pc' := 34) G (by omega) rfl (fun _ _ => rfl) rfl (by decide) (by omega) dX3_undo_33 rfl ?_
    refine fV_callV (n := 1) (k := 1) (K := 0) (As := [.ref (Γ.1 (P 61 (I 0 3 - 1)))]) (rest := []) (pc' := 37) G (mX0_copyFrom l Γ hN I2 P fSc_1 (fHs_s hhs (by omega) (by omega)) (by have := fHs_b hhs (w := I 0 3 - 1) (by omega) (by omega); omega) hp (hpa _ (fHs_s hhs (by omega) (by omega))) (by rw [eI2, fup_ne (by omega)]; exact hok.1.1) (fun w h0 h1 => by rw [eI2, fup_ne (by omega)] at h1; rw [eI2, fup_ne (by have := (fPs_w hsc (hpa _ hsc) h0 (by have := hok.1.1; omega)).2.1; intro z; rw [z] at this; cases this)]; exact (hok.2.1 w h0 h1).2.2.2.2.2.1)) kcX3_undo_107 (by omega) rfl rfl rfl rfl (Nat.le_of_ble_eq_true rfl) (Nat.zero_le _) (Nat.zero_le _) dX3_undo_34 rfl (fun v3 I4 P5 h6 => ?_)
    obtain ⟨h6v, eP5, hve, hou⟩ := h6
    refine fV_st (st' := []) (by rw [h6v]; rfl) ?_
    refine fV_aload_n (pc' := 38) G 0 dX3_undo_37 rfl rfl rfl ?_
    refine fV_get (K := 3) (v := .int (i32 (I4 0 3))) (pc' := 41) G kfX3_undo_23 (by omega) rfl rfl rfl dX3_undo_38 rfl ?_
    refine fV_top (b := I 0 3 - 1) (by rw [hou 0 (by omega), eI2, fup_s]) ?_
    refine fV_iret G dX3_undo_41 ?_
    exact Or.inl ⟨by omega, rfl, vEq_u hhs hpa (by omega) (by omega) hok.1.1 (eI2 ▸ hve), eI2 ▸ hou, eP5⟩
  · refine fV_bipush (n := -12) (pc' := 10) G dX3_undo_8 rfl rfl ?_
    refine fV_iret G dX3_undo_10 ?_
    exact Or.inr ⟨by omega, rfl, rfl, rfl⟩
