/-! CONTRACTS 7: the class's public reads (rows laid by wip/whole/gen/con7.py) -/
set_option maxHeartbeats 4000000 in
set_option maxRecDepth 100000 in
theorem mX3_count (l : Launch) (Γ : fG) {N : Nat} (hN : 214 ≤ N) (I : fM) (P : fN) (ho : xOk I P) (what : Int) (h_what : -2147483648 ≤ what ∧ what ≤ 2147483647) : fMet l yX3_count wsX3_count rmX3_count Γ N [.ref (Γ.1 0), .int (i32 what)] I P (fE (some (.int (i32 (qXCount I P what)))) I P) := by
  refine fMet_of (own := RX3) (cc := cX3_count) (maxL := 2) (ret := (some .int)) rfl (by decide +kernel) rfl (Nat.le_of_ble_eq_true rfl) ?_
  intro p e s m args below meth c G
  obtain ⟨hv, hp, hww, hst, htl⟩ := id ho
  obtain ⟨hv1, hv3, hv4, hvs⟩ := id hv
  refine fV_lv (lv' := [(0, .ref (Γ.1 0)), (1, .int (i32 what))]) [0, 1] rfl ?_
  refine fV_iload_n (pc' := 1) G 1 dX3_count_0 rfl rfl rfl ?_
  by_cases c1 : what = 0
  · refine fV_tableIn (off := 43) (tgt := 44) G dX3_count_1 (by omega) (by omega) (by omega) (by rw [c1]; rfl) (by decide) ?_
    refine fV_aload_n (pc' := 45) G 0 dX3_count_44 rfl rfl rfl ?_
    refine fV_get (K := 3) (v := .ref (Γ.1 1)) (pc' := 48) G kfX3_count_10 (by omega) rfl rfl rfl dX3_count_45 rfl ?_
    refine fV_get (K := 0) (v := .int (i32 (I 1 1))) (pc' := 51) G kfX3_count_53 (by omega) rfl rfl rfl dX3_count_48 rfl ?_
    refine fV_iret G dX3_count_51 ?_
    exact fE_i (by unfold qXCount; (split <;> first | rfl | omega | (split <;> first | rfl | omega | (split <;> first | rfl | omega | (split <;> first | rfl | omega | (split <;> first | rfl | omega | (split <;> first | rfl | omega | (split <;> first | rfl | omega))))))))
  by_cases c2 : what = 1
  · refine fV_tableIn (off := 51) (tgt := 52) G dX3_count_1 (by omega) (by omega) (by omega) (by rw [c2]; rfl) (by decide) ?_
    refine fV_aload_n (pc' := 53) G 0 dX3_count_52 rfl rfl rfl ?_
    refine fV_get (K := 3) (v := .ref (Γ.1 1)) (pc' := 56) G kfX3_count_10 (by omega) rfl rfl rfl dX3_count_53 rfl ?_
    refine fV_callVf (st' := [.int (i32 (sSum (fun i => if I (P 2 i) 6 = 1 then 1 else 0) (I 1 1)))]) (n := 0) (k := 1) (K := 0) (As := []) (rest := []) (pc' := 59) G (mX0_countPut l Γ hN I P fSc_1 hv hp hww) kcX3_count_128 (by omega) rfl rfl rfl rfl (Nat.le_of_ble_eq_true rfl) (Nat.zero_le _) (Nat.zero_le _) dX3_count_56 rfl rfl ?_
    refine fV_iret G dX3_count_59 ?_
    exact fE_i (by unfold qXCount; (split <;> first | rfl | omega | (split <;> first | rfl | omega | (split <;> first | rfl | omega | (split <;> first | rfl | omega | (split <;> first | rfl | omega | (split <;> first | rfl | omega | (split <;> first | rfl | omega))))))))
  by_cases c3 : what = 2
  · refine fV_tableIn (off := 59) (tgt := 60) G dX3_count_1 (by omega) (by omega) (by omega) (by rw [c3]; rfl) (by decide) ?_
    refine fV_aload_n (pc' := 61) G 0 dX3_count_60 rfl rfl rfl ?_
    refine fV_get (K := 3) (v := .ref (Γ.1 1)) (pc' := 64) G kfX3_count_10 (by omega) rfl rfl rfl dX3_count_61 rfl ?_
    refine fV_get (K := 0) (v := .int (i32 (I 1 3))) (pc' := 67) G kfX3_count_91 (by omega) rfl rfl rfl dX3_count_64 rfl ?_
    refine fV_iret G dX3_count_67 ?_
    exact fE_i (by unfold qXCount; (split <;> first | rfl | omega | (split <;> first | rfl | omega | (split <;> first | rfl | omega | (split <;> first | rfl | omega | (split <;> first | rfl | omega | (split <;> first | rfl | omega | (split <;> first | rfl | omega))))))))
  by_cases c4 : what = 3
  · refine fV_tableIn (off := 67) (tgt := 68) G dX3_count_1 (by omega) (by omega) (by omega) (by rw [c4]; rfl) (by decide) ?_
    refine fV_aload_n (pc' := 69) G 0 dX3_count_68 rfl rfl rfl ?_
    refine fV_get (K := 3) (v := .ref (Γ.1 1)) (pc' := 72) G kfX3_count_10 (by omega) rfl rfl rfl dX3_count_69 rfl ?_
    refine fV_get (K := 0) (v := .int (i32 (I 1 4))) (pc' := 75) G kfX3_count_97 (by omega) rfl rfl rfl dX3_count_72 rfl ?_
    refine fV_iret G dX3_count_75 ?_
    exact fE_i (by unfold qXCount; (split <;> first | rfl | omega | (split <;> first | rfl | omega | (split <;> first | rfl | omega | (split <;> first | rfl | omega | (split <;> first | rfl | omega | (split <;> first | rfl | omega | (split <;> first | rfl | omega))))))))
  by_cases c5 : what = 4
  · refine fV_tableIn (off := 75) (tgt := 76) G dX3_count_1 (by omega) (by omega) (by omega) (by rw [c5]; rfl) (by decide) ?_
    refine fV_aload_n (pc' := 77) G 0 dX3_count_76 rfl rfl rfl ?_
    refine fV_get (K := 3) (v := .ref (Γ.1 1)) (pc' := 80) G kfX3_count_10 (by omega) rfl rfl rfl dX3_count_77 rfl ?_
    refine fV_callVf (st' := [.int (i32 (qXPairs I P 1))]) (n := 0) (k := 1) (K := 0) (As := []) (rest := []) (pc' := 83) G (mX0_countMeetingPairs l Γ hN I P fSc_1 hv hp hww) kcX3_count_144 (by omega) rfl rfl rfl rfl (Nat.le_of_ble_eq_true rfl) (Nat.zero_le _) (Nat.zero_le _) dX3_count_80 rfl rfl ?_
    refine fV_iret G dX3_count_83 ?_
    exact fE_i (by unfold qXCount; (split <;> first | rfl | omega | (split <;> first | rfl | omega | (split <;> first | rfl | omega | (split <;> first | rfl | omega | (split <;> first | rfl | omega | (split <;> first | rfl | omega | (split <;> first | rfl | omega))))))))
  by_cases c6 : what = 5
  · refine fV_tableIn (off := 83) (tgt := 84) G dX3_count_1 (by omega) (by omega) (by omega) (by rw [c6]; rfl) (by decide) ?_
    refine fV_aload_n (pc' := 85) G 0 dX3_count_84 rfl rfl rfl ?_
    refine fV_get (K := 3) (v := .int (i32 (I 0 3))) (pc' := 88) G kfX3_count_23 (by omega) rfl rfl rfl dX3_count_85 rfl ?_
    refine fV_iret G dX3_count_88 ?_
    exact fE_i (by unfold qXCount; (split <;> first | rfl | omega | (split <;> first | rfl | omega | (split <;> first | rfl | omega | (split <;> first | rfl | omega | (split <;> first | rfl | omega | (split <;> first | rfl | omega | (split <;> first | rfl | omega))))))))
  by_cases c7 : what = 6
  · refine fV_tableIn (off := 88) (tgt := 89) G dX3_count_1 (by omega) (by omega) (by omega) (by rw [c7]; rfl) (by decide) ?_
    refine fV_aload_n (pc' := 90) G 0 dX3_count_89 rfl rfl rfl ?_
    refine fV_get (K := 3) (v := .ref (Γ.1 212)) (pc' := 93) G kfX3_count_30 (by omega) rfl rfl rfl dX3_count_90 rfl ?_
    refine fV_get (K := 1) (v := .int (i32 (I 212 1))) (pc' := 96) G kfX3_count_100 (by omega) rfl rfl rfl dX3_count_93 rfl ?_
    refine fV_iret G dX3_count_96 ?_
    exact fE_i (by unfold qXCount; (split <;> first | rfl | omega | (split <;> first | rfl | omega | (split <;> first | rfl | omega | (split <;> first | rfl | omega | (split <;> first | rfl | omega | (split <;> first | rfl | omega | (split <;> first | rfl | omega))))))))
  refine fV_tableOut (tgt := 97) G dX3_count_1 (by omega) (by omega) (by decide) ?_
  refine fV_bipush (n := -11) (pc' := 99) G dX3_count_97 rfl rfl ?_
  refine fV_iret G dX3_count_99 ?_
  exact fE_i (by unfold qXCount; (split <;> first | rfl | omega | (split <;> first | rfl | omega | (split <;> first | rfl | omega | (split <;> first | rfl | omega | (split <;> first | rfl | omega | (split <;> first | rfl | omega | (split <;> first | rfl | omega))))))))
set_option maxHeartbeats 4000000 in
set_option maxRecDepth 100000 in
theorem mX3_word (l : Launch) (Γ : fG) {N : Nat} (hN : 214 ≤ N) (I : fM) (P : fN) (ho : xOk I P) (w what : Int) (h_w : -2147483648 ≤ w ∧ w ≤ 2147483647) (h_what : -2147483648 ≤ what ∧ what ≤ 2147483647) : fMet l yX3_word wsX3_word rmX3_word Γ N [.ref (Γ.1 0), .int (i32 w), .int (i32 what)] I P (fE (some (.int (i32 (qXWord I P w what)))) I P) := by
  refine fMet_of (own := RX3) (cc := cX3_word) (maxL := 4) (ret := (some .int)) rfl (by decide +kernel) rfl (Nat.le_of_ble_eq_true rfl) ?_
  intro p e s m args below meth c G
  obtain ⟨hv, hp, hww, hst, htl⟩ := id ho
  obtain ⟨hv1, hv3, hv4, hvs⟩ := id hv
  refine fV_lv (lv' := [(0, .ref (Γ.1 0)), (1, .int (i32 w)), (2, .int (i32 what))]) [0, 1, 2] rfl ?_
  refine fV_aload_n (pc' := 1) G 0 dX3_word_0 rfl rfl rfl ?_
  refine fV_get (K := 3) (v := .ref (Γ.1 1)) (pc' := 4) G kfX3_word_10 (by omega) rfl rfl rfl dX3_word_1 rfl ?_
  refine fV_iload_n (pc' := 5) G 1 dX3_word_4 rfl rfl rfl ?_
  refine fV_callVf (st' := [.int (i32 (fB (decide (0 ≤ w ∧ w < I 1 1))))]) (n := 1) (k := 1) (K := 0) (As := [.int (i32 w)]) (rest := []) (pc' := 8) G (mX0_hasWord l Γ hN I P fSc_1 hv1 w (by omega)) kcX3_word_56 (by omega) rfl rfl rfl rfl (Nat.le_of_ble_eq_true rfl) (Nat.zero_le _) (Nat.zero_le _) dX3_word_5 rfl rfl ?_
  refine fV_ifeq_b (tgt := 21) (pc' := 11) G dX3_word_8 (by decide) rfl (fun c1 => ?_) (fun c1 => ?_)
  · have d1 : ¬ (0 ≤ w ∧ w < I 1 1) := of_decide_eq_false c1
    refine fV_bipush (n := -11) (pc' := 23) G dX3_word_21 rfl rfl ?_
    refine fV_iret G dX3_word_23 ?_
    exact fE_i (by unfold qXWord; (split <;> first | rfl | omega | (split <;> first | rfl | omega | (split <;> first | rfl | omega | (split <;> first | rfl | omega | (split <;> first | rfl | omega | (split <;> first | rfl | omega | (split <;> first | rfl | omega))))))))
  · have d1 : (0 ≤ w ∧ w < I 1 1) := of_decide_eq_true c1
    refine fV_iload_n (pc' := 12) G 2 dX3_word_11 rfl rfl rfl ?_
    refine fV_iconst (pc' := 13) G dX3_word_12 rfl ?_
    refine fV_bipush (n := 7) (pc' := 15) G dX3_word_13 rfl rfl ?_
    refine fV_callSf (st' := [.int (i32 (fB (sBetw what 0 7)))]) (n := 3) (As := [.int (i32 what), .int (i32 0), .int (i32 7)]) (rest := []) (pc' := 18) G (mX3_isBetween l Γ hN I P what 0 7 (by omega) (by omega) (by omega)) kcX3_word_34 rfl rfl (Nat.le_of_ble_eq_true rfl) (Nat.zero_le _) (Nat.zero_le _) dX3_word_15 rfl rfl ?_
    refine fV_ifne_b (tgt := 24) (pc' := 21) G dX3_word_18 (by decide) rfl (fun c2 => ?_) (fun c2 => ?_)
    · have d2 : (0 ≤ what ∧ what ≤ 7) := of_decide_eq_true c2
      refine fV_aload_n (pc' := 25) G 0 dX3_word_24 rfl rfl rfl ?_
      refine fV_get (K := 3) (v := .ref (Γ.1 1)) (pc' := 28) G kfX3_word_10 (by omega) rfl rfl rfl dX3_word_25 rfl ?_
      refine fV_get (K := 0) (v := .ref (Γ.1 2)) (pc' := 31) G kfX3_word_64 (by omega) rfl rfl rfl dX3_word_28 rfl ?_
      refine fV_iload_n (pc' := 32) G 1 dX3_word_31 rfl rfl rfl ?_
      refine fV_aald (K := 11) (n := 12) (t := 1) (pc' := 33) G (by omega) rfl (fun _ _ => rfl) rfl (by decide) (by omega) dX3_word_32 rfl ?_
      have hkw := hww w (by omega) (by omega)
      obtain ⟨hw1, hw2, hw3, hw4, hw5, hw6, hw7⟩ := id hkw
      refine fV_astore_n (lv' := [(3, .ref (Γ.1 (P 2 w))), (0, .ref (Γ.1 0)), (1, .int (i32 w)), (2, .int (i32 what))]) (pc' := 34) G dX3_word_33 rfl (by decide) rfl rfl ?_
      refine fV_iload_n (pc' := 35) G 3 dX3_word_34 rfl rfl rfl ?_
      refine fV_bipush (n := 7) (pc' := 37) G dX3_word_35 rfl rfl ?_
      refine fV_icmp_ne (tgt := 45) (pc' := 40) G dX3_word_37 (by decide) rfl (by omega) (by decide) (fun c3 => ?_) (fun c3 => ?_)
      · refine fV_iload_n (pc' := 46) G 3 dX3_word_45 rfl rfl rfl ?_
        refine fV_iconst (pc' := 47) G dX3_word_46 rfl ?_
        refine fV_icmp_gt (tgt := 56) (pc' := 50) G dX3_word_47 (by decide) rfl (by omega) (by decide) (fun c4 => ?_) (fun c4 => ?_)
        · refine fV_aload_n (pc' := 57) G 0 dX3_word_56 rfl rfl rfl ?_
          refine fV_get (K := 2) (v := .int (i32 (I (P 2 w) 6))) (pc' := 60) G kfX3_word_78 (by have z9 : P 2 w + 1 < 212 := (fPs_w fSc_1 hp (by omega) (by omega)).1; omega) (fPs_w fSc_1 hp (w := w) (by omega) (by omega)).2.1 rfl rfl dX3_word_57 rfl ?_
          refine fV_if_ne (tgt := 66) (pc' := 63) G dX3_word_60 (by decide) rfl (by omega) (fun c5 => ?_) (fun c5 => ?_)
          · have hput : I (P 2 w) 6 = 1 := by omega
            have hgb : 0 ≤ sGone (I 1 4) (I 1 3) (I 3) (I (P 2 w)) ∧ sGone (I 1 4) (I 1 3) (I 3) (I (P 2 w)) ≤ 2300 := sGone_b hv hkw hput
            refine fV_iload_n (pc' := 67) G 3 dX3_word_66 rfl rfl rfl ?_
            by_cases c6 : what = 4
            · refine fV_lookup (off := 25) (tgt := 92) G dX3_word_67 (by omega) rfl (by rw [c6]; rfl) (by decide) ?_
              refine fV_aload_n (pc' := 93) G 0 dX3_word_92 rfl rfl rfl ?_
              refine fV_get (K := 2) (v := .int (i32 (I (P 2 w) 7))) (pc' := 96) G kfX3_word_148 (by have z9 : P 2 w + 1 < 212 := (fPs_w fSc_1 hp (by omega) (by omega)).1; omega) (fPs_w fSc_1 hp (w := w) (by omega) (by omega)).2.1 rfl rfl dX3_word_93 rfl ?_
              refine fV_iret G dX3_word_96 ?_
              exact fE_i (by unfold qXWord; (split <;> first | rfl | omega | (split <;> first | rfl | omega | (split <;> first | rfl | omega | (split <;> first | rfl | omega | (split <;> first | rfl | omega | (split <;> first | rfl | omega | (split <;> first | rfl | omega))))))))
            by_cases c7 : what = 5
            · refine fV_lookup (off := 30) (tgt := 97) G dX3_word_67 (by omega) rfl (by rw [c7]; rfl) (by decide) ?_
              refine fV_aload_n (pc' := 98) G 0 dX3_word_97 rfl rfl rfl ?_
              refine fV_get (K := 2) (v := .int (i32 (I (P 2 w) 8))) (pc' := 101) G kfX3_word_151 (by have z9 : P 2 w + 1 < 212 := (fPs_w fSc_1 hp (by omega) (by omega)).1; omega) (fPs_w fSc_1 hp (w := w) (by omega) (by omega)).2.1 rfl rfl dX3_word_98 rfl ?_
              refine fV_iret G dX3_word_101 ?_
              exact fE_i (by unfold qXWord; (split <;> first | rfl | omega | (split <;> first | rfl | omega | (split <;> first | rfl | omega | (split <;> first | rfl | omega | (split <;> first | rfl | omega | (split <;> first | rfl | omega | (split <;> first | rfl | omega))))))))
            refine fV_lookup (off := 35) (tgt := 102) G dX3_word_67 (by omega) rfl (by first | (simp [Op.lookupswitch.offset, c6, c7]; done) | (simp [Op.lookupswitch.offset]; (split <;> first | omega | (split <;> omega)))) (by decide) ?_
            refine fV_aload_n (pc' := 103) G 1 dX3_word_102 rfl rfl rfl ?_
            refine fV_get (K := 3) (v := .ref (Γ.1 1)) (pc' := 106) G kfX3_word_10 (by omega) rfl rfl rfl dX3_word_103 rfl ?_
            refine fV_aload_n (pc' := 107) G 0 dX3_word_106 rfl rfl rfl ?_
            refine fV_callVf (st' := [.int (i32 (sGone (I 1 4) (I 1 3) (I 3) (I (P 2 w))))]) (n := 1) (k := 1) (K := 0) (As := [.ref (Γ.1 (P 2 w))]) (rest := []) (pc' := 110) G (mX0_goneFrom l Γ hN I P fSc_1 hv (fPs_w fSc_1 hp (by omega) (by omega)) (hww _ (by omega) (by omega)) hput) kcX3_word_154 (by omega) rfl rfl rfl rfl (Nat.le_of_ble_eq_true rfl) (Nat.zero_le _) (Nat.zero_le _) dX3_word_107 rfl rfl ?_
            refine fV_iconst (pc' := 111) G dX3_word_110 rfl ?_
            refine fV_isub (pc' := 112) G dX3_word_111 rfl ?_
            refine fV_iret G dX3_word_112 ?_
            exact fE_i (by unfold qXWord; (split <;> first | rfl | omega | (split <;> first | rfl | omega | (split <;> first | rfl | omega | (split <;> first | rfl | omega | (split <;> first | rfl | omega | (split <;> first | rfl | omega | (split <;> first | rfl | omega))))))))
          · refine fV_bipush (n := -19) (pc' := 65) G dX3_word_63 rfl rfl ?_
            refine fV_iret G dX3_word_65 ?_
            exact fE_i (by unfold qXWord; (split <;> first | rfl | omega | (split <;> first | rfl | omega | (split <;> first | rfl | omega | (split <;> first | rfl | omega | (split <;> first | rfl | omega | (split <;> first | rfl | omega | (split <;> first | rfl | omega))))))))
        · refine fV_aload_n (pc' := 51) G 0 dX3_word_50 rfl rfl rfl ?_
          refine fV_iload_n (pc' := 52) G 3 dX3_word_51 rfl rfl rfl ?_
          refine fV_callVf (st' := [.int (i32 (I (P 2 w) (what + 2)))]) (n := 1) (k := (P 2 w)) (K := 2) (As := [.int (i32 what)]) (rest := []) (pc' := 55) G (mX2_property l Γ hN I P (fPs_w fSc_1 hp (by omega) (by omega)) what (by omega)) kcX3_word_68 (by have z9 : P 2 w + 1 < 212 := (fPs_w fSc_1 hp (by omega) (by omega)).1; omega) (fPs_w fSc_1 hp (w := w) (by omega) (by omega)).2.1 rfl rfl rfl (Nat.le_of_ble_eq_true rfl) (Nat.zero_le _) (Nat.zero_le _) dX3_word_52 rfl rfl ?_
          refine fV_iret G dX3_word_55 ?_
          exact fE_i (by unfold qXWord; (split <;> first | rfl | omega | (split <;> first | rfl | omega | (split <;> first | rfl | omega | (split <;> first | rfl | omega | (split <;> first | rfl | omega | (split <;> first | rfl | omega | (split <;> first | rfl | omega))))))))
      · refine fV_aload_n (pc' := 41) G 0 dX3_word_40 rfl rfl rfl ?_
        refine fV_get (K := 2) (v := .int (i32 (I (P 2 w) 1))) (pc' := 44) G kfX3_word_147 (by have z9 : P 2 w + 1 < 212 := (fPs_w fSc_1 hp (by omega) (by omega)).1; omega) (fPs_w fSc_1 hp (w := w) (by omega) (by omega)).2.1 rfl rfl dX3_word_41 rfl ?_
        refine fV_iret G dX3_word_44 ?_
        exact fE_i (by unfold qXWord; (split <;> first | rfl | omega | (split <;> first | rfl | omega | (split <;> first | rfl | omega | (split <;> first | rfl | omega | (split <;> first | rfl | omega | (split <;> first | rfl | omega | (split <;> first | rfl | omega))))))))
    · have d2 : ¬ (0 ≤ what ∧ what ≤ 7) := of_decide_eq_false c2
      refine fV_bipush (n := -11) (pc' := 23) G dX3_word_21 rfl rfl ?_
      refine fV_iret G dX3_word_23 ?_
      exact fE_i (by unfold qXWord; (split <;> first | rfl | omega | (split <;> first | rfl | omega | (split <;> first | rfl | omega | (split <;> first | rfl | omega | (split <;> first | rfl | omega | (split <;> first | rfl | omega | (split <;> first | rfl | omega))))))))
set_option maxHeartbeats 4000000 in
set_option maxRecDepth 100000 in
theorem mX3_letter (l : Launch) (Γ : fG) {N : Nat} (hN : 214 ≤ N) (I : fM) (P : fN) (ho : xOk I P) (w i : Int) (h_w : -2147483648 ≤ w ∧ w ≤ 2147483647) (h_i : -2147483648 ≤ i ∧ i ≤ 2147483647) : fMet l yX3_letter wsX3_letter rmX3_letter Γ N [.ref (Γ.1 0), .int (i32 w), .int (i32 i)] I P (fE (some (.int (i32 (qXLetter I P w i)))) I P) := by
  refine fMet_of (own := RX3) (cc := cX3_letter) (maxL := 4) (ret := (some .int)) rfl (by decide +kernel) rfl (Nat.le_of_ble_eq_true rfl) ?_
  intro p e s m args below meth c G
  obtain ⟨hv, hp, hww, hst, htl⟩ := id ho
  obtain ⟨hv1, hv3, hv4, hvs⟩ := id hv
  refine fV_lv (lv' := [(0, .ref (Γ.1 0)), (1, .int (i32 w)), (2, .int (i32 i))]) [0, 1, 2] rfl ?_
  refine fV_aload_n (pc' := 1) G 0 dX3_letter_0 rfl rfl rfl ?_
  refine fV_get (K := 3) (v := .ref (Γ.1 1)) (pc' := 4) G kfX3_letter_10 (by omega) rfl rfl rfl dX3_letter_1 rfl ?_
  refine fV_iload_n (pc' := 5) G 1 dX3_letter_4 rfl rfl rfl ?_
  refine fV_callVf (st' := [.int (i32 (fB (decide (0 ≤ w ∧ w < I 1 1))))]) (n := 1) (k := 1) (K := 0) (As := [.int (i32 w)]) (rest := []) (pc' := 8) G (mX0_hasWord l Γ hN I P fSc_1 hv1 w (by omega)) kcX3_letter_56 (by omega) rfl rfl rfl rfl (Nat.le_of_ble_eq_true rfl) (Nat.zero_le _) (Nat.zero_le _) dX3_letter_5 rfl rfl ?_
  refine fV_ifeq_b (tgt := 15) (pc' := 11) G dX3_letter_8 (by decide) rfl (fun c1 => ?_) (fun c1 => ?_)
  · have d1 : ¬ (0 ≤ w ∧ w < I 1 1) := of_decide_eq_false c1
    refine fV_bipush (n := -11) (pc' := 17) G dX3_letter_15 rfl rfl ?_
    refine fV_iret G dX3_letter_17 ?_
    exact fE_i (by unfold qXLetter; (split <;> first | rfl | omega | (split <;> first | rfl | omega | (split <;> first | rfl | omega | (split <;> first | rfl | omega | (split <;> first | rfl | omega | (split <;> first | rfl | omega | (split <;> first | rfl | omega))))))))
  · have d1 : (0 ≤ w ∧ w < I 1 1) := of_decide_eq_true c1
    refine fV_iload_n (pc' := 12) G 2 dX3_letter_11 rfl rfl rfl ?_
    refine fV_if_ge (tgt := 18) (pc' := 15) G dX3_letter_12 (by decide) rfl (by omega) (fun c2 => ?_) (fun c2 => ?_)
    · refine fV_aload_n (pc' := 19) G 0 dX3_letter_18 rfl rfl rfl ?_
      refine fV_get (K := 3) (v := .ref (Γ.1 1)) (pc' := 22) G kfX3_letter_10 (by omega) rfl rfl rfl dX3_letter_19 rfl ?_
      refine fV_get (K := 0) (v := .ref (Γ.1 2)) (pc' := 25) G kfX3_letter_64 (by omega) rfl rfl rfl dX3_letter_22 rfl ?_
      refine fV_iload_n (pc' := 26) G 1 dX3_letter_25 rfl rfl rfl ?_
      refine fV_aald (K := 11) (n := 12) (t := 1) (pc' := 27) G (by omega) rfl (fun _ _ => rfl) rfl (by decide) (by omega) dX3_letter_26 rfl ?_
      have hkw := hww w (by omega) (by omega)
      obtain ⟨hw1, hw2, hw3, hw4, hw5, hw6, hw7⟩ := id hkw
      refine fV_astore_n (lv' := [(3, .ref (Γ.1 (P 2 w))), (0, .ref (Γ.1 0)), (1, .int (i32 w)), (2, .int (i32 i))]) (pc' := 28) G dX3_letter_27 rfl (by decide) rfl rfl ?_
      refine fV_iload_n (pc' := 29) G 3 dX3_letter_28 rfl rfl rfl ?_
      refine fV_aload_n (pc' := 30) G 0 dX3_letter_29 rfl rfl rfl ?_
      refine fV_get (K := 2) (v := .int (i32 (I (P 2 w) 1))) (pc' := 33) G kfX3_letter_147 (by have z9 : P 2 w + 1 < 212 := (fPs_w fSc_1 hp (by omega) (by omega)).1; omega) (fPs_w fSc_1 hp (w := w) (by omega) (by omega)).2.1 rfl rfl dX3_letter_30 rfl ?_
      refine fV_icmp_ge (tgt := 45) (pc' := 36) G dX3_letter_33 (by decide) rfl (by omega) (by omega) (fun c3 => ?_) (fun c3 => ?_)
      · refine fV_bipush (n := -19) (pc' := 47) G dX3_letter_45 rfl rfl ?_
        refine fV_iret G dX3_letter_47 ?_
        exact fE_i (by unfold qXLetter; (split <;> first | rfl | omega | (split <;> first | rfl | omega | (split <;> first | rfl | omega | (split <;> first | rfl | omega | (split <;> first | rfl | omega | (split <;> first | rfl | omega | (split <;> first | rfl | omega))))))))
      · refine fV_aload_n (pc' := 37) G 0 dX3_letter_36 rfl rfl rfl ?_
        refine fV_get (K := 2) (v := .ref (Γ.1 ((P 2 w) + 1))) (pc' := 40) G kfX3_letter_158 (by have z9 : P 2 w + 1 < 212 := (fPs_w fSc_1 hp (by omega) (by omega)).1; omega) (fPs_w fSc_1 hp (w := w) (by omega) (by omega)).2.1 rfl rfl dX3_letter_37 rfl ?_
        refine fV_iload_n (pc' := 41) G 3 dX3_letter_40 rfl rfl rfl ?_
        refine fV_iald (K := 5) (n := 12) (pc' := 42) G (by have z9 : P 2 w + 1 < 212 := (fPs_w fSc_1 hp (by omega) (by omega)).1; omega) (fPs_w fSc_1 hp (w := w) (by omega) (by omega)).2.2 (fun _ _ => rfl) (by decide) (by omega) dX3_letter_41 rfl ?_
        refine fV_goto (tgt := 47) G dX3_letter_42 (by decide) ?_
        refine fV_iret G dX3_letter_47 ?_
        exact fE_i (by unfold qXLetter; (split <;> first | rfl | omega | (split <;> first | rfl | omega | (split <;> first | rfl | omega | (split <;> first | rfl | omega | (split <;> first | rfl | omega | (split <;> first | rfl | omega | (split <;> first | rfl | omega))))))))
    · refine fV_bipush (n := -11) (pc' := 17) G dX3_letter_15 rfl rfl ?_
      refine fV_iret G dX3_letter_17 ?_
      exact fE_i (by unfold qXLetter; (split <;> first | rfl | omega | (split <;> first | rfl | omega | (split <;> first | rfl | omega | (split <;> first | rfl | omega | (split <;> first | rfl | omega | (split <;> first | rfl | omega | (split <;> first | rfl | omega))))))))
set_option maxHeartbeats 4000000 in
set_option maxRecDepth 100000 in
theorem mX3_shot (l : Launch) (Γ : fG) {N : Nat} (hN : 214 ≤ N) (I : fM) (P : fN) (ho : xOk I P) (i : Int) (h_i : -2147483648 ≤ i ∧ i ≤ 2147483647) : fMet l yX3_shot wsX3_shot rmX3_shot Γ N [.ref (Γ.1 0), .int (i32 i)] I P (fE (some (.int (i32 (qXShot I i)))) I P) := by
  refine fMet_of (own := RX3) (cc := cX3_shot) (maxL := 2) (ret := (some .int)) rfl (by decide +kernel) rfl (Nat.le_of_ble_eq_true rfl) ?_
  intro p e s m args below meth c G
  obtain ⟨hv, hp, hww, hst, htl⟩ := id ho
  obtain ⟨hv1, hv3, hv4, hvs⟩ := id hv
  refine fV_lv (lv' := [(0, .ref (Γ.1 0)), (1, .int (i32 i))]) [0, 1] rfl ?_
  refine fV_iload_n (pc' := 1) G 1 dX3_shot_0 rfl rfl rfl ?_
  refine fV_if_ge (tgt := 7) (pc' := 4) G dX3_shot_1 (by decide) rfl (by omega) (fun c1 => ?_) (fun c1 => ?_)
  · refine fV_iload_n (pc' := 8) G 1 dX3_shot_7 rfl rfl rfl ?_
    refine fV_aload_n (pc' := 9) G 0 dX3_shot_8 rfl rfl rfl ?_
    refine fV_get (K := 3) (v := .ref (Γ.1 1)) (pc' := 12) G kfX3_shot_10 (by omega) rfl rfl rfl dX3_shot_9 rfl ?_
    refine fV_get (K := 0) (v := .int (i32 (I 1 3))) (pc' := 15) G kfX3_shot_91 (by omega) rfl rfl rfl dX3_shot_12 rfl ?_
    refine fV_icmp_ge (tgt := 30) (pc' := 18) G dX3_shot_15 (by decide) rfl (by omega) (by omega) (fun c2 => ?_) (fun c2 => ?_)
    · refine fV_bipush (n := -19) (pc' := 32) G dX3_shot_30 rfl rfl ?_
      refine fV_iret G dX3_shot_32 ?_
      exact fE_i (by unfold qXShot; (split <;> first | rfl | omega | (split <;> first | rfl | omega | (split <;> first | rfl | omega | (split <;> first | rfl | omega | (split <;> first | rfl | omega | (split <;> first | rfl | omega | (split <;> first | rfl | omega))))))))
    · refine fV_aload_n (pc' := 19) G 0 dX3_shot_18 rfl rfl rfl ?_
      refine fV_get (K := 3) (v := .ref (Γ.1 1)) (pc' := 22) G kfX3_shot_10 (by omega) rfl rfl rfl dX3_shot_19 rfl ?_
      refine fV_get (K := 0) (v := .ref (Γ.1 3)) (pc' := 25) G kfX3_shot_161 (by omega) rfl rfl rfl dX3_shot_22 rfl ?_
      refine fV_iload_n (pc' := 26) G 1 dX3_shot_25 rfl rfl rfl ?_
      refine fV_iald (K := 6) (n := 10) (pc' := 27) G (by omega) rfl (fun _ _ => rfl) (by decide) (by omega) dX3_shot_26 rfl ?_
      refine fV_goto (tgt := 32) G dX3_shot_27 (by decide) ?_
      refine fV_iret G dX3_shot_32 ?_
      exact fE_i (by unfold qXShot; (split <;> first | rfl | omega | (split <;> first | rfl | omega | (split <;> first | rfl | omega | (split <;> first | rfl | omega | (split <;> first | rfl | omega | (split <;> first | rfl | omega | (split <;> first | rfl | omega))))))))
  · refine fV_bipush (n := -11) (pc' := 6) G dX3_shot_4 rfl rfl ?_
    refine fV_iret G dX3_shot_6 ?_
    exact fE_i (by unfold qXShot; (split <;> first | rfl | omega | (split <;> first | rfl | omega | (split <;> first | rfl | omega | (split <;> first | rfl | omega | (split <;> first | rfl | omega | (split <;> first | rfl | omega | (split <;> first | rfl | omega))))))))
set_option maxHeartbeats 4000000 in
set_option maxRecDepth 100000 in
theorem mX3_where (l : Launch) (Γ : fG) {N : Nat} (hN : 214 ≤ N) (I : fM) (P : fN) (ho : xOk I P) (w f what : Int) (h_w : -2147483648 ≤ w ∧ w ≤ 2147483647) (h_f : -2147483648 ≤ f ∧ f ≤ 2147483647) (h_what : -2147483648 ≤ what ∧ what ≤ 2147483647) : fMet l yX3_where wsX3_where rmX3_where Γ N [.ref (Γ.1 0), .int (i32 w), .int (i32 f), .int (i32 what)] I P (fE (some (.int (i32 (qXWhere I P w f what)))) I P) := by
  refine fMet_of (own := RX3) (cc := cX3_where) (maxL := 6) (ret := (some .int)) rfl (by decide +kernel) rfl (Nat.le_of_ble_eq_true rfl) ?_
  intro p e s m args below meth c G
  obtain ⟨hv, hp, hww, hst, htl⟩ := id ho
  obtain ⟨hv1, hv3, hv4, hvs⟩ := id hv
  refine fV_lv (lv' := [(0, .ref (Γ.1 0)), (1, .int (i32 w)), (2, .int (i32 f)), (3, .int (i32 what))]) [0, 1, 2, 3] rfl ?_
  refine fV_aload_n (pc' := 1) G 0 dX3_where_0 rfl rfl rfl ?_
  refine fV_get (K := 3) (v := .ref (Γ.1 1)) (pc' := 4) G kfX3_where_10 (by omega) rfl rfl rfl dX3_where_1 rfl ?_
  refine fV_iload_n (pc' := 5) G 1 dX3_where_4 rfl rfl rfl ?_
  refine fV_callVf (st' := [.int (i32 (fB (decide (0 ≤ w ∧ w < I 1 1))))]) (n := 1) (k := 1) (K := 0) (As := [.int (i32 w)]) (rest := []) (pc' := 8) G (mX0_hasWord l Γ hN I P fSc_1 hv1 w (by omega)) kcX3_where_56 (by omega) rfl rfl rfl rfl (Nat.le_of_ble_eq_true rfl) (Nat.zero_le _) (Nat.zero_le _) dX3_where_5 rfl rfl ?_
  refine fV_ifeq_b (tgt := 27) (pc' := 11) G dX3_where_8 (by decide) rfl (fun c1 => ?_) (fun c1 => ?_)
  · have d1 : ¬ (0 ≤ w ∧ w < I 1 1) := of_decide_eq_false c1
    refine fV_bipush (n := -11) (pc' := 29) G dX3_where_27 rfl rfl ?_
    refine fV_iret G dX3_where_29 ?_
    exact fE_i (by unfold qXWhere; first | (rw [if_neg (by omega)]; done) | (rw [if_pos (by omega)]; first | (rw [if_neg hnv]; done) | (rw [if_pos hvis]; (split <;> first | rfl | omega | (split <;> first | rfl | omega | (split <;> first | rfl | omega | (split <;> first | rfl | omega | (split <;> first | rfl | omega | (split <;> first | rfl | omega | (split <;> first | rfl | omega))))))))))
  · have d1 : (0 ≤ w ∧ w < I 1 1) := of_decide_eq_true c1
    refine fV_iload_n (pc' := 12) G 2 dX3_where_11 rfl rfl rfl ?_
    refine fV_callSf (st' := [.int (i32 (fB (sBetw f 0 4000)))]) (n := 1) (As := [.int (i32 f)]) (rest := []) (pc' := 15) G (mX3_isAskedFrame l Γ hN I P f (by omega)) kcX3_where_164 rfl rfl (Nat.le_of_ble_eq_true rfl) (Nat.zero_le _) (Nat.zero_le _) dX3_where_12 rfl rfl ?_
    refine fV_ifeq_b (tgt := 27) (pc' := 18) G dX3_where_15 (by decide) rfl (fun c2 => ?_) (fun c2 => ?_)
    · have d2 : ¬ (0 ≤ f ∧ f ≤ 4000) := of_decide_eq_false c2
      refine fV_bipush (n := -11) (pc' := 29) G dX3_where_27 rfl rfl ?_
      refine fV_iret G dX3_where_29 ?_
      exact fE_i (by unfold qXWhere; first | (rw [if_neg (by omega)]; done) | (rw [if_pos (by omega)]; first | (rw [if_neg hnv]; done) | (rw [if_pos hvis]; (split <;> first | rfl | omega | (split <;> first | rfl | omega | (split <;> first | rfl | omega | (split <;> first | rfl | omega | (split <;> first | rfl | omega | (split <;> first | rfl | omega | (split <;> first | rfl | omega))))))))))
    · have d2 : (0 ≤ f ∧ f ≤ 4000) := of_decide_eq_true c2
      refine fV_iload_n (pc' := 19) G 3 dX3_where_18 rfl rfl rfl ?_
      refine fV_iconst (pc' := 20) G dX3_where_19 rfl ?_
      refine fV_iconst (pc' := 21) G dX3_where_20 rfl ?_
      refine fV_callSf (st' := [.int (i32 (fB (sBetw what 0 1)))]) (n := 3) (As := [.int (i32 what), .int (i32 0), .int (i32 1)]) (rest := []) (pc' := 24) G (mX3_isBetween l Γ hN I P what 0 1 (by omega) (by omega) (by omega)) kcX3_where_34 rfl rfl (Nat.le_of_ble_eq_true rfl) (Nat.zero_le _) (Nat.zero_le _) dX3_where_21 rfl rfl ?_
      refine fV_ifne_b (tgt := 30) (pc' := 27) G dX3_where_24 (by decide) rfl (fun c3 => ?_) (fun c3 => ?_)
      · have d3 : (0 ≤ what ∧ what ≤ 1) := of_decide_eq_true c3
        refine fV_aload_n (pc' := 31) G 0 dX3_where_30 rfl rfl rfl ?_
        refine fV_get (K := 3) (v := .ref (Γ.1 1)) (pc' := 34) G kfX3_where_10 (by omega) rfl rfl rfl dX3_where_31 rfl ?_
        refine fV_get (K := 0) (v := .ref (Γ.1 2)) (pc' := 37) G kfX3_where_64 (by omega) rfl rfl rfl dX3_where_34 rfl ?_
        refine fV_iload_n (pc' := 38) G 1 dX3_where_37 rfl rfl rfl ?_
        refine fV_aald (K := 11) (n := 12) (t := 1) (pc' := 39) G (by omega) rfl (fun _ _ => rfl) rfl (by decide) (by omega) dX3_where_38 rfl ?_
        have hkw := hww w (by omega) (by omega)
        obtain ⟨hw1, hw2, hw3, hw4, hw5, hw6, hw7⟩ := id hkw
        refine fV_astore (lv' := [(4, .ref (Γ.1 (P 2 w))), (0, .ref (Γ.1 0)), (1, .int (i32 w)), (2, .int (i32 f)), (3, .int (i32 what))]) (pc' := 41) G dX3_where_39 (by decide) rfl rfl ?_
        refine fV_aload_n (pc' := 42) G 1 dX3_where_41 rfl rfl rfl ?_
        refine fV_get (K := 3) (v := .ref (Γ.1 1)) (pc' := 45) G kfX3_where_10 (by omega) rfl rfl rfl dX3_where_42 rfl ?_
        refine fV_aload (pc' := 47) G 0 dX3_where_45 rfl rfl ?_
        refine fV_iload_n (pc' := 48) G 3 dX3_where_47 rfl rfl rfl ?_
        refine fV_callVf (st' := [.int (i32 (fB (decide (xVis I P 1 w f))))]) (n := 2) (k := 1) (K := 0) (As := [.ref (Γ.1 (P 2 w)), .int (i32 f)]) (rest := []) (pc' := 51) G (mX0_isVisible l Γ hN I P fSc_1 hv (fPs_w fSc_1 hp (by omega) (by omega)) (hww _ (by omega) (by omega)) f (by omega)) kcX3_where_167 (by omega) rfl rfl rfl rfl (Nat.le_of_ble_eq_true rfl) (Nat.zero_le _) (Nat.zero_le _) dX3_where_48 rfl rfl ?_
        refine fV_ifne_b (tgt := 57) (pc' := 54) G dX3_where_51 (by decide) rfl (fun c4 => ?_) (fun c4 => ?_)
        · have d4 : (xVis I P 1 w f) := of_decide_eq_true c4
          have hvis : xVis I P 1 w f := d4
          have hput : I (P 2 w) 6 = 1 := hvis.1
          have hcb := sColX_b hv4 hkw (f := f) (by omega) hput
          refine fV_iload_n (pc' := 58) G 4 dX3_where_57 rfl rfl rfl ?_
          refine fV_if_ne (tgt := 72) (pc' := 61) G dX3_where_58 (by decide) rfl (by omega) (fun c5 => ?_) (fun c5 => ?_)
          · refine fV_aload_n (pc' := 73) G 1 dX3_where_72 rfl rfl rfl ?_
            refine fV_get (K := 3) (v := .ref (Γ.1 1)) (pc' := 76) G kfX3_where_10 (by omega) rfl rfl rfl dX3_where_73 rfl ?_
            refine fV_aload (pc' := 78) G 0 dX3_where_76 rfl rfl ?_
            refine fV_iload_n (pc' := 79) G 3 dX3_where_78 rfl rfl rfl ?_
            refine fV_callVf (st' := [.int (i32 (sColX (I 1 4) (I (P 2 w)) f))]) (n := 2) (k := 1) (K := 0) (As := [.ref (Γ.1 (P 2 w)), .int (i32 f)]) (rest := []) (pc' := 82) G (mX0_columnOf l Γ hN I P fSc_1 hv4 (fPs_w fSc_1 hp (by omega) (by omega)) (hww _ (by omega) (by omega)) f (by omega)) kcX3_where_175 (by omega) rfl rfl rfl rfl (Nat.le_of_ble_eq_true rfl) (Nat.zero_le _) (Nat.zero_le _) dX3_where_79 rfl rfl ?_
            refine fV_istore (lv' := [(5, .int (i32 (sColX (I 1 4) (I (P 2 w)) f))), (4, .ref (Γ.1 (P 2 w))), (0, .ref (Γ.1 0)), (1, .int (i32 w)), (2, .int (i32 f)), (3, .int (i32 what))]) (pc' := 84) G dX3_where_82 (by decide) rfl rfl ?_
            refine fV_iload (pc' := 86) G 0 dX3_where_84 rfl rfl ?_
            refine fV_iconst (pc' := 87) G dX3_where_86 rfl ?_
            refine fV_bipush (n := 39) (pc' := 89) G dX3_where_87 rfl rfl ?_
            refine fV_callSf (st' := [.int (i32 (fB (sBetw (sColX (I 1 4) (I (P 2 w)) f) 0 39)))]) (n := 3) (As := [.int (i32 (sColX (I 1 4) (I (P 2 w)) f)), .int (i32 0), .int (i32 39)]) (rest := []) (pc' := 92) G (mX3_isBetween l Γ hN I P (sColX (I 1 4) (I (P 2 w)) f) 0 39 (by omega) (by omega) (by omega)) kcX3_where_34 rfl rfl (Nat.le_of_ble_eq_true rfl) (Nat.zero_le _) (Nat.zero_le _) dX3_where_89 rfl rfl ?_
            refine fV_ifeq_b (tgt := 100) (pc' := 95) G dX3_where_92 (by decide) rfl (fun c6 => ?_) (fun c6 => ?_)
            · have d6 : ¬ (0 ≤ (sColX (I 1 4) (I (P 2 w)) f) ∧ (sColX (I 1 4) (I (P 2 w)) f) ≤ 39) := of_decide_eq_false c6
              refine fV_sipush (n := -1000) (pc' := 103) G dX3_where_100 rfl rfl ?_
              refine fV_iload (pc' := 105) G 0 dX3_where_103 rfl rfl ?_
              refine fV_iadd (pc' := 106) G dX3_where_105 rfl ?_
              refine fV_iret G dX3_where_106 ?_
              exact fE_i (by unfold qXWhere; first | (rw [if_neg (by omega)]; done) | (rw [if_pos (by omega)]; first | (rw [if_neg hnv]; done) | (rw [if_pos hvis]; (split <;> first | rfl | omega | (split <;> first | rfl | omega | (split <;> first | rfl | omega | (split <;> first | rfl | omega | (split <;> first | rfl | omega | (split <;> first | rfl | omega | (split <;> first | rfl | omega))))))))))
            · have d6 : (0 ≤ (sColX (I 1 4) (I (P 2 w)) f) ∧ (sColX (I 1 4) (I (P 2 w)) f) ≤ 39) := of_decide_eq_true c6
              refine fV_iload (pc' := 97) G 0 dX3_where_95 rfl rfl ?_
              refine fV_goto (tgt := 106) G dX3_where_97 (by decide) ?_
              refine fV_iret G dX3_where_106 ?_
              exact fE_i (by unfold qXWhere; first | (rw [if_neg (by omega)]; done) | (rw [if_pos (by omega)]; first | (rw [if_neg hnv]; done) | (rw [if_pos hvis]; (split <;> first | rfl | omega | (split <;> first | rfl | omega | (split <;> first | rfl | omega | (split <;> first | rfl | omega | (split <;> first | rfl | omega | (split <;> first | rfl | omega | (split <;> first | rfl | omega))))))))))
          · refine fV_aload_n (pc' := 62) G 1 dX3_where_61 rfl rfl rfl ?_
            refine fV_get (K := 3) (v := .ref (Γ.1 1)) (pc' := 65) G kfX3_where_10 (by omega) rfl rfl rfl dX3_where_62 rfl ?_
            refine fV_aload (pc' := 67) G 0 dX3_where_65 rfl rfl ?_
            refine fV_iload_n (pc' := 68) G 3 dX3_where_67 rfl rfl rfl ?_
            refine fV_callVf (st' := [.int (i32 (sRowX (I 1 4) (I (P 2 w)) f))]) (n := 2) (k := 1) (K := 0) (As := [.ref (Γ.1 (P 2 w)), .int (i32 f)]) (rest := []) (pc' := 71) G (mX0_rowOf l Γ hN I P fSc_1 hv4 (fPs_w fSc_1 hp (by omega) (by omega)) (hww _ (by omega) (by omega)) f (by omega)) kcX3_where_171 (by omega) rfl rfl rfl rfl (Nat.le_of_ble_eq_true rfl) (Nat.zero_le _) (Nat.zero_le _) dX3_where_68 rfl rfl ?_
            refine fV_iret G dX3_where_71 ?_
            exact fE_i (by unfold qXWhere; first | (rw [if_neg (by omega)]; done) | (rw [if_pos (by omega)]; first | (rw [if_neg hnv]; done) | (rw [if_pos hvis]; (split <;> first | rfl | omega | (split <;> first | rfl | omega | (split <;> first | rfl | omega | (split <;> first | rfl | omega | (split <;> first | rfl | omega | (split <;> first | rfl | omega | (split <;> first | rfl | omega))))))))))
        · have d4 : ¬ (xVis I P 1 w f) := of_decide_eq_false c4
          have hnv : ¬ xVis I P 1 w f := d4
          refine fV_bipush (n := -19) (pc' := 56) G dX3_where_54 rfl rfl ?_
          refine fV_iret G dX3_where_56 ?_
          exact fE_i (by unfold qXWhere; first | (rw [if_neg (by omega)]; done) | (rw [if_pos (by omega)]; first | (rw [if_neg hnv]; done) | (rw [if_pos hvis]; (split <;> first | rfl | omega | (split <;> first | rfl | omega | (split <;> first | rfl | omega | (split <;> first | rfl | omega | (split <;> first | rfl | omega | (split <;> first | rfl | omega | (split <;> first | rfl | omega))))))))))
      · have d3 : ¬ (0 ≤ what ∧ what ≤ 1) := of_decide_eq_false c3
        refine fV_bipush (n := -11) (pc' := 29) G dX3_where_27 rfl rfl ?_
        refine fV_iret G dX3_where_29 ?_
        exact fE_i (by unfold qXWhere; first | (rw [if_neg (by omega)]; done) | (rw [if_pos (by omega)]; first | (rw [if_neg hnv]; done) | (rw [if_pos hvis]; (split <;> first | rfl | omega | (split <;> first | rfl | omega | (split <;> first | rfl | omega | (split <;> first | rfl | omega | (split <;> first | rfl | omega | (split <;> first | rfl | omega | (split <;> first | rfl | omega))))))))))
set_option maxHeartbeats 4000000 in
set_option maxRecDepth 100000 in
theorem mX3_onScreen (l : Launch) (Γ : fG) {N : Nat} (hN : 214 ≤ N) (I : fM) (P : fN) (ho : xOk I P) (f : Int) (h_f : -2147483648 ≤ f ∧ f ≤ 2147483647) : fMet l yX3_onScreen wsX3_onScreen rmX3_onScreen Γ N [.ref (Γ.1 0), .int (i32 f)] I P (fE (some (.int (qXOnScreen I P f))) I P) := by
  refine fMet_of (own := RX3) (cc := cX3_onScreen) (maxL := 2) (ret := (some .int)) rfl (by decide +kernel) rfl (Nat.le_of_ble_eq_true rfl) ?_
  intro p e s m args below meth c G
  obtain ⟨hv, hp, hww, hst, htl⟩ := id ho
  obtain ⟨hv1, hv3, hv4, hvs⟩ := id hv
  refine fV_lv (lv' := [(0, .ref (Γ.1 0)), (1, .int (i32 f))]) [0, 1] rfl ?_
  refine fV_iload_n (pc' := 1) G 1 dX3_onScreen_0 rfl rfl rfl ?_
  refine fV_callSf (st' := [.int (i32 (fB (sBetw f 0 4000)))]) (n := 1) (As := [.int (i32 f)]) (rest := []) (pc' := 4) G (mX3_isAskedFrame l Γ hN I P f (by omega)) kcX3_onScreen_164 rfl rfl (Nat.le_of_ble_eq_true rfl) (Nat.zero_le _) (Nat.zero_le _) dX3_onScreen_1 rfl rfl ?_
  refine fV_ifne_b (tgt := 10) (pc' := 7) G dX3_onScreen_4 (by decide) rfl (fun c1 => ?_) (fun c1 => ?_)
  · have d1 : (0 ≤ f ∧ f ≤ 4000) := of_decide_eq_true c1
    refine fV_aload_n (pc' := 11) G 0 dX3_onScreen_10 rfl rfl rfl ?_
    refine fV_get (K := 3) (v := .ref (Γ.1 1)) (pc' := 14) G kfX3_onScreen_10 (by omega) rfl rfl rfl dX3_onScreen_11 rfl ?_
    refine fV_iload_n (pc' := 15) G 1 dX3_onScreen_14 rfl rfl rfl ?_
    refine fV_callVf (st' := [.int (sSet (fun w => decide (xVis I P 1 w f)) (I 1 1))]) (n := 1) (k := 1) (K := 0) (As := [.int (i32 f)]) (rest := []) (pc' := 18) G (mX0_visibleSet l Γ hN I P fSc_1 hv hp hww f (by omega)) kcX3_onScreen_182 (by omega) rfl rfl rfl rfl (Nat.le_of_ble_eq_true rfl) (Nat.zero_le _) (Nat.zero_le _) dX3_onScreen_15 rfl rfl ?_
    refine fV_iret G dX3_onScreen_18 ?_
    exact ⟨by unfold qXOnScreen; rw [if_pos (by omega)], rfl, rfl⟩
  · have d1 : ¬ (0 ≤ f ∧ f ≤ 4000) := of_decide_eq_false c1
    refine fV_bipush (n := -11) (pc' := 9) G dX3_onScreen_7 rfl rfl ?_
    refine fV_iret G dX3_onScreen_9 ?_
    exact ⟨by unfold qXOnScreen; rw [if_neg (by omega)], rfl, rfl⟩
set_option maxHeartbeats 4000000 in
set_option maxRecDepth 100000 in
theorem mX3_meeting (l : Launch) (Γ : fG) {N : Nat} (hN : 214 ≤ N) (I : fM) (P : fN) (ho : xOk I P) (a b : Int) (h_a : -2147483648 ≤ a ∧ a ≤ 2147483647) (h_b : -2147483648 ≤ b ∧ b ≤ 2147483647) : fMet l yX3_meeting wsX3_meeting rmX3_meeting Γ N [.ref (Γ.1 0), .int (i32 a), .int (i32 b)] I P (fE (some (.int (i32 (qXMeeting I P a b)))) I P) := by
  refine fMet_of (own := RX3) (cc := cX3_meeting) (maxL := 3) (ret := (some .int)) rfl (by decide +kernel) rfl (Nat.le_of_ble_eq_true rfl) ?_
  intro p e s m args below meth c G
  obtain ⟨hv, hp, hww, hst, htl⟩ := id ho
  obtain ⟨hv1, hv3, hv4, hvs⟩ := id hv
  refine fV_lv (lv' := [(0, .ref (Γ.1 0)), (1, .int (i32 a)), (2, .int (i32 b))]) [0, 1, 2] rfl ?_
  refine fV_aload_n (pc' := 1) G 0 dX3_meeting_0 rfl rfl rfl ?_
  refine fV_get (K := 3) (v := .ref (Γ.1 1)) (pc' := 4) G kfX3_meeting_10 (by omega) rfl rfl rfl dX3_meeting_1 rfl ?_
  refine fV_iload_n (pc' := 5) G 1 dX3_meeting_4 rfl rfl rfl ?_
  refine fV_callVf (st' := [.int (i32 (fB (decide (0 ≤ a ∧ a < I 1 1))))]) (n := 1) (k := 1) (K := 0) (As := [.int (i32 a)]) (rest := []) (pc' := 8) G (mX0_hasWord l Γ hN I P fSc_1 hv1 a (by omega)) kcX3_meeting_56 (by omega) rfl rfl rfl rfl (Nat.le_of_ble_eq_true rfl) (Nat.zero_le _) (Nat.zero_le _) dX3_meeting_5 rfl rfl ?_
  refine fV_ifeq_b (tgt := 27) (pc' := 11) G dX3_meeting_8 (by decide) rfl (fun c1 => ?_) (fun c1 => ?_)
  · have d1 : ¬ (0 ≤ a ∧ a < I 1 1) := of_decide_eq_false c1
    refine fV_bipush (n := -11) (pc' := 29) G dX3_meeting_27 rfl rfl ?_
    refine fV_iret G dX3_meeting_29 ?_
    exact fE_i (by unfold qXMeeting; (split <;> first | rfl | omega | (split <;> first | rfl | omega | (split <;> first | rfl | omega | (split <;> first | rfl | omega | (split <;> first | rfl | omega | (split <;> first | rfl | omega | (split <;> first | rfl | omega))))))))
  · have d1 : (0 ≤ a ∧ a < I 1 1) := of_decide_eq_true c1
    refine fV_aload_n (pc' := 12) G 0 dX3_meeting_11 rfl rfl rfl ?_
    refine fV_get (K := 3) (v := .ref (Γ.1 1)) (pc' := 15) G kfX3_meeting_10 (by omega) rfl rfl rfl dX3_meeting_12 rfl ?_
    refine fV_iload_n (pc' := 16) G 2 dX3_meeting_15 rfl rfl rfl ?_
    refine fV_callVf (st' := [.int (i32 (fB (decide (0 ≤ b ∧ b < I 1 1))))]) (n := 1) (k := 1) (K := 0) (As := [.int (i32 b)]) (rest := []) (pc' := 19) G (mX0_hasWord l Γ hN I P fSc_1 hv1 b (by omega)) kcX3_meeting_56 (by omega) rfl rfl rfl rfl (Nat.le_of_ble_eq_true rfl) (Nat.zero_le _) (Nat.zero_le _) dX3_meeting_16 rfl rfl ?_
    refine fV_ifeq_b (tgt := 27) (pc' := 22) G dX3_meeting_19 (by decide) rfl (fun c2 => ?_) (fun c2 => ?_)
    · have d2 : ¬ (0 ≤ b ∧ b < I 1 1) := of_decide_eq_false c2
      refine fV_bipush (n := -11) (pc' := 29) G dX3_meeting_27 rfl rfl ?_
      refine fV_iret G dX3_meeting_29 ?_
      exact fE_i (by unfold qXMeeting; (split <;> first | rfl | omega | (split <;> first | rfl | omega | (split <;> first | rfl | omega | (split <;> first | rfl | omega | (split <;> first | rfl | omega | (split <;> first | rfl | omega | (split <;> first | rfl | omega))))))))
    · have d2 : (0 ≤ b ∧ b < I 1 1) := of_decide_eq_true c2
      refine fV_iload_n (pc' := 23) G 1 dX3_meeting_22 rfl rfl rfl ?_
      refine fV_iload_n (pc' := 24) G 2 dX3_meeting_23 rfl rfl rfl ?_
      refine fV_icmp_ne (tgt := 30) (pc' := 27) G dX3_meeting_24 (by decide) rfl (by omega) (by omega) (fun c3 => ?_) (fun c3 => ?_)
      · refine fV_aload_n (pc' := 31) G 0 dX3_meeting_30 rfl rfl rfl ?_
        refine fV_get (K := 3) (v := .ref (Γ.1 1)) (pc' := 34) G kfX3_meeting_10 (by omega) rfl rfl rfl dX3_meeting_31 rfl ?_
        refine fV_aload_n (pc' := 35) G 0 dX3_meeting_34 rfl rfl rfl ?_
        refine fV_get (K := 3) (v := .ref (Γ.1 1)) (pc' := 38) G kfX3_meeting_10 (by omega) rfl rfl rfl dX3_meeting_35 rfl ?_
        refine fV_get (K := 0) (v := .ref (Γ.1 2)) (pc' := 41) G kfX3_meeting_64 (by omega) rfl rfl rfl dX3_meeting_38 rfl ?_
        refine fV_iload_n (pc' := 42) G 1 dX3_meeting_41 rfl rfl rfl ?_
        refine fV_aald (K := 11) (n := 12) (t := 1) (pc' := 43) G (by omega) rfl (fun _ _ => rfl) rfl (by decide) (by omega) dX3_meeting_42 rfl ?_
        refine fV_aload_n (pc' := 44) G 0 dX3_meeting_43 rfl rfl rfl ?_
        refine fV_get (K := 3) (v := .ref (Γ.1 1)) (pc' := 47) G kfX3_meeting_10 (by omega) rfl rfl rfl dX3_meeting_44 rfl ?_
        refine fV_get (K := 0) (v := .ref (Γ.1 2)) (pc' := 50) G kfX3_meeting_64 (by omega) rfl rfl rfl dX3_meeting_47 rfl ?_
        refine fV_iload_n (pc' := 51) G 2 dX3_meeting_50 rfl rfl rfl ?_
        refine fV_aald (K := 11) (n := 12) (t := 1) (pc' := 52) G (by omega) rfl (fun _ _ => rfl) rfl (by decide) (by omega) dX3_meeting_51 rfl ?_
        refine fV_callVf (st' := [.int (i32 (xMet I P 1 a b))]) (n := 2) (k := 1) (K := 0) (As := [.ref (Γ.1 (P 2 a)), .ref (Γ.1 (P 2 b))]) (rest := []) (pc' := 55) G (mX0_firstMeeting l Γ hN I P fSc_1 hv (fPs_w fSc_1 hp (by omega) (by omega)) (hww _ (by omega) (by omega)) (fPs_w fSc_1 hp (by omega) (by omega)) (hww _ (by omega) (by omega))) kcX3_meeting_185 (by omega) rfl rfl rfl rfl (Nat.le_of_ble_eq_true rfl) (Nat.zero_le _) (Nat.zero_le _) dX3_meeting_52 rfl rfl ?_
        refine fV_iret G dX3_meeting_55 ?_
        exact fE_i (by unfold qXMeeting; (split <;> first | rfl | omega | (split <;> first | rfl | omega | (split <;> first | rfl | omega | (split <;> first | rfl | omega | (split <;> first | rfl | omega | (split <;> first | rfl | omega | (split <;> first | rfl | omega))))))))
      · refine fV_bipush (n := -11) (pc' := 29) G dX3_meeting_27 rfl rfl ?_
        refine fV_iret G dX3_meeting_29 ?_
        exact fE_i (by unfold qXMeeting; (split <;> first | rfl | omega | (split <;> first | rfl | omega | (split <;> first | rfl | omega | (split <;> first | rfl | omega | (split <;> first | rfl | omega | (split <;> first | rfl | omega | (split <;> first | rfl | omega))))))))
set_option maxHeartbeats 4000000 in
set_option maxRecDepth 100000 in
theorem mX3_isPossiblePlace (l : Launch) (Γ : fG) {N : Nat} (hN : 214 ≤ N) (I : fM) (P : fN) (ho : xOk I P) (w la co : Int) (h_w : -2147483648 ≤ w ∧ w ≤ 2147483647) (h_la : -2147483648 ≤ la ∧ la ≤ 2147483647) (h_co : -2147483648 ≤ co ∧ co ≤ 2147483647) : fMet l yX3_isPossiblePlace wsX3_isPossiblePlace rmX3_isPossiblePlace Γ N [.ref (Γ.1 0), .int (i32 w), .int (i32 la), .int (i32 co)] I P (fE (some (.int (i32 (fB (decide ((0 ≤ w ∧ w < I 1 1) ∧ (0 ≤ la ∧ la ≤ 7) ∧ 0 ≤ co ∧ co + I (P 2 w) 1 ≤ 40)))))) I P) := by
  refine fMet_of (own := RX3) (cc := cX3_isPossiblePlace) (maxL := 4) (ret := (some .boolean)) rfl (by decide +kernel) rfl (Nat.le_of_ble_eq_true rfl) ?_
  intro p e s m args below meth c G
  obtain ⟨hv, hp, hww, hst, htl⟩ := id ho
  obtain ⟨hv1, hv3, hv4, hvs⟩ := id hv
  refine fV_lv (lv' := [(0, .ref (Γ.1 0)), (1, .int (i32 w)), (2, .int (i32 la)), (3, .int (i32 co))]) [0, 1, 2, 3] rfl ?_
  refine fV_aload_n (pc' := 1) G 0 dX3_isPossiblePlace_0 rfl rfl rfl ?_
  refine fV_get (K := 3) (v := .ref (Γ.1 1)) (pc' := 4) G kfX3_isPossiblePlace_10 (by omega) rfl rfl rfl dX3_isPossiblePlace_1 rfl ?_
  refine fV_iload_n (pc' := 5) G 1 dX3_isPossiblePlace_4 rfl rfl rfl ?_
  refine fV_callVf (st' := [.int (i32 (fB (decide (0 ≤ w ∧ w < I 1 1))))]) (n := 1) (k := 1) (K := 0) (As := [.int (i32 w)]) (rest := []) (pc' := 8) G (mX0_hasWord l Γ hN I P fSc_1 hv1 w (by omega)) kcX3_isPossiblePlace_56 (by omega) rfl rfl rfl rfl (Nat.le_of_ble_eq_true rfl) (Nat.zero_le _) (Nat.zero_le _) dX3_isPossiblePlace_5 rfl rfl ?_
  refine fV_ifeq_b (tgt := 45) (pc' := 11) G dX3_isPossiblePlace_8 (by decide) rfl (fun c1 => ?_) (fun c1 => ?_)
  · have d1 : ¬ (0 ≤ w ∧ w < I 1 1) := of_decide_eq_false c1
    refine fV_iconst (pc' := 46) G dX3_isPossiblePlace_45 rfl ?_
    refine fV_zret (b := false) G dX3_isPossiblePlace_46 ?_
    exact fE_b (by first | exact decide_eq_decide.mpr (by omega) | (symm; exact decide_eq_true (by omega)) | (symm; exact decide_eq_false (by omega)))
  · have d1 : (0 ≤ w ∧ w < I 1 1) := of_decide_eq_true c1
    refine fV_iload_n (pc' := 12) G 2 dX3_isPossiblePlace_11 rfl rfl rfl ?_
    refine fV_iconst (pc' := 13) G dX3_isPossiblePlace_12 rfl ?_
    refine fV_bipush (n := 7) (pc' := 15) G dX3_isPossiblePlace_13 rfl rfl ?_
    refine fV_callSf (st' := [.int (i32 (fB (sBetw la 0 7)))]) (n := 3) (As := [.int (i32 la), .int (i32 0), .int (i32 7)]) (rest := []) (pc' := 18) G (mX3_isBetween l Γ hN I P la 0 7 (by omega) (by omega) (by omega)) kcX3_isPossiblePlace_34 rfl rfl (Nat.le_of_ble_eq_true rfl) (Nat.zero_le _) (Nat.zero_le _) dX3_isPossiblePlace_15 rfl rfl ?_
    refine fV_ifeq_b (tgt := 45) (pc' := 21) G dX3_isPossiblePlace_18 (by decide) rfl (fun c2 => ?_) (fun c2 => ?_)
    · have d2 : ¬ (0 ≤ la ∧ la ≤ 7) := of_decide_eq_false c2
      refine fV_iconst (pc' := 46) G dX3_isPossiblePlace_45 rfl ?_
      refine fV_zret (b := false) G dX3_isPossiblePlace_46 ?_
      exact fE_b (by first | exact decide_eq_decide.mpr (by omega) | (symm; exact decide_eq_true (by omega)) | (symm; exact decide_eq_false (by omega)))
    · have d2 : (0 ≤ la ∧ la ≤ 7) := of_decide_eq_true c2
      refine fV_iload_n (pc' := 22) G 3 dX3_isPossiblePlace_21 rfl rfl rfl ?_
      refine fV_iconst (pc' := 23) G dX3_isPossiblePlace_22 rfl ?_
      refine fV_aload_n (pc' := 24) G 0 dX3_isPossiblePlace_23 rfl rfl rfl ?_
      refine fV_get (K := 3) (v := .ref (Γ.1 1)) (pc' := 27) G kfX3_isPossiblePlace_10 (by omega) rfl rfl rfl dX3_isPossiblePlace_24 rfl ?_
      refine fV_get (K := 0) (v := .ref (Γ.1 2)) (pc' := 30) G kfX3_isPossiblePlace_64 (by omega) rfl rfl rfl dX3_isPossiblePlace_27 rfl ?_
      refine fV_iload_n (pc' := 31) G 1 dX3_isPossiblePlace_30 rfl rfl rfl ?_
      refine fV_aald (K := 11) (n := 12) (t := 1) (pc' := 32) G (by omega) rfl (fun _ _ => rfl) rfl (by decide) (by omega) dX3_isPossiblePlace_31 rfl ?_
      have hkw := (hww w (by omega) (by omega)).1
      refine fV_callVf (st' := [.int (i32 (40 - I (P 2 w) 1)), .int (i32 0), .int (i32 co)]) (n := 0) (k := (P 2 w)) (K := 2) (As := []) (rest := [.int (i32 0), .int (i32 co)]) (pc' := 35) G (mX2_lastColumn l Γ hN I P (fPs_w fSc_1 hp (by omega) (by omega))) kcX3_isPossiblePlace_205 (by have z9 : P 2 w + 1 < 212 := (fPs_w fSc_1 hp (by omega) (by omega)).1; omega) (fPs_w fSc_1 hp (w := w) (by omega) (by omega)).2.1 rfl rfl rfl (Nat.le_of_ble_eq_true rfl) (Nat.zero_le _) (Nat.zero_le _) dX3_isPossiblePlace_32 rfl rfl ?_
      refine fV_callSf (st' := [.int (i32 (fB (sBetw co 0 (40 - I (P 2 w) 1))))]) (n := 3) (As := [.int (i32 co), .int (i32 0), .int (i32 (40 - I (P 2 w) 1))]) (rest := []) (pc' := 38) G (mX3_isBetween l Γ hN I P co 0 (40 - I (P 2 w) 1) (by omega) (by omega) (by omega)) kcX3_isPossiblePlace_34 rfl rfl (Nat.le_of_ble_eq_true rfl) (Nat.zero_le _) (Nat.zero_le _) dX3_isPossiblePlace_35 rfl rfl ?_
      refine fV_ifeq_b (tgt := 45) (pc' := 41) G dX3_isPossiblePlace_38 (by decide) rfl (fun c3 => ?_) (fun c3 => ?_)
      · have d3 : ¬ (0 ≤ co ∧ co ≤ (40 - I (P 2 w) 1)) := of_decide_eq_false c3
        refine fV_iconst (pc' := 46) G dX3_isPossiblePlace_45 rfl ?_
        refine fV_zret (b := false) G dX3_isPossiblePlace_46 ?_
        exact fE_b (by first | exact decide_eq_decide.mpr (by omega) | (symm; exact decide_eq_true (by omega)) | (symm; exact decide_eq_false (by omega)))
      · have d3 : (0 ≤ co ∧ co ≤ (40 - I (P 2 w) 1)) := of_decide_eq_true c3
        refine fV_iconst (pc' := 42) G dX3_isPossiblePlace_41 rfl ?_
        refine fV_goto (tgt := 46) G dX3_isPossiblePlace_42 (by decide) ?_
        refine fV_zret (b := true) G dX3_isPossiblePlace_46 ?_
        exact fE_b (by first | exact decide_eq_decide.mpr (by omega) | (symm; exact decide_eq_true (by omega)) | (symm; exact decide_eq_false (by omega)))
