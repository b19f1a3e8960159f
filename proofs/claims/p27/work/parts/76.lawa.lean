/-! LAW: act (rows laid by wip/p27/gen/lcon3.py) -/
noncomputable def aV (s : Int → Int) (y : Int) : Int := if kd y = 0 ∨ kd y = 1 ∨ kd y = 2 then vAdd s (1 + lo (sr y 4) 12) (lo (sr y 6) 60) (1 + lo (sr y 5) 30) (lo (sr y 7) 20) (lo (sr y 8) 5) else if kd y = 3 then vRem s (lo (sr y 4) 5) else if kd y = 4 then vSet s (lo (sr y 4) 5) (lo (sr y 7) 4) (lo (sr y 6) 8) else if kd y = 5 then vAsh s (1 + lo (sr y 4) 90) else if kd y = 6 then vRsh s (1 + lo (sr y 4) 90) else if kd y = 7 then vSpd s (50 + lo (sr y 4) 351) else if kd y = 8 then vTak s (lo (sr y 4) 5) else if kd y = 9 then vPal s  else vPut s (lo (sr y 4) 5) (2 + lo (sr y 7) 3) (8 + lo (sr y 6) 20)
noncomputable def aT (s : Int → Int) (y : Int) : Int → Int := if kd y = 0 ∨ kd y = 1 ∨ kd y = 2 then tAdd s (1 + lo (sr y 4) 12) (lo (sr y 6) 60) (1 + lo (sr y 5) 30) (lo (sr y 7) 20) (lo (sr y 8) 5) else if kd y = 3 then tRem s (lo (sr y 4) 5) else if kd y = 4 then tSet s (lo (sr y 4) 5) (lo (sr y 7) 4) (lo (sr y 6) 8) else if kd y = 5 then tAsh s (1 + lo (sr y 4) 90) else if kd y = 6 then tRsh s (1 + lo (sr y 4) 90) else if kd y = 7 then tSpd s (50 + lo (sr y 4) 351) else if kd y = 8 then tTak s (lo (sr y 4) 5) else if kd y = 9 then tPal s  else tPut s (lo (sr y 4) 5) (2 + lo (sr y 7) 3) (8 + lo (sr y 6) 20)
theorem klo (x n : Int) (h : 1 ≤ n ∧ n ≤ 1000) : 0 ≤ lo x n ∧ lo x n < n := lo_b x h.1
/-- an action's end, and what the order of putting rests on -/
def aQ (K : fM) (Q : fN) (s : Int → Int) (k : Nat) (tp : Nat → Int → Int) (y : Int) : Prop := oSt K Q s k tp (aV s y) (aT s y) ∧ (kd y = 9 → ∃ o : Int → Int, sOrd (fun w => s (13 + 19 * w + 6)) (fun w => s (13 + 19 * w + 0)) (s 0) o)
set_option maxHeartbeats 4000000 in
set_option maxRecDepth 100000 in
theorem mL_act (l : Launch) (Γ : fG) (hN : 214 ≤ 214) (I : fM) (P : fN) {σ : Int → Int} {κ : Nat} {τ : Nat → Int → Int} (S : St I P σ κ τ) (hκ : κ ≤ 4) (y : Int) : fMet l yL_act wsL_act rmL_act Γ 214 [.ref (Γ.1 0), .int (i32 y)] I P (fun v J Q => v = some (.int (i32 (aV σ y))) ∧ aQ J Q σ κ τ y) := by
  refine fMet_of (own := RL) (cc := cL_act) (maxL := 3) (ret := (some .int)) rfl (by decide +kernel) rfl (Nat.le_of_ble_eq_true rfl) ?_
  intro p e s m args below meth c G
  have hkb := kd_b y
  refine fV_lv (lv' := [(0, .ref (Γ.1 0)), (1, .int (i32 y))]) [0, 1] rfl ?_
  refine fV_iload_n (pc' := 1) G 1 dL_act_0 rfl rfl rfl ?_
  refine fV_iconst (pc' := 2) G dL_act_1 rfl ?_
  refine fV_ishrr (t := sr y 4) (pc' := 3) G rfl dL_act_2 rfl ?_
  refine fV_istore_n (lv' := [(2, .int (i32 (sr y 4))), (0, .ref (Γ.1 0)), (1, .int (i32 y))]) (pc' := 4) G dL_act_3 rfl (by decide) rfl rfl ?_
  refine fV_iload_n (pc' := 5) G 2 dL_act_4 rfl rfl rfl ?_
  refine fV_bipush (n := 15) (pc' := 7) G dL_act_5 rfl rfl ?_
  refine fV_iandr (t := kd y) (pc' := 8) G rfl dL_act_7 rfl ?_
  by_cases c1 : kd y = 0
  · refine fV_tableIn (off := 56) (tgt := 64) G dL_act_8 (by omega) (by omega) (by omega) (by rw [c1]; rfl) (by decide) ?_
    refine fV_aload_n (pc' := 65) G 1 dL_act_64 rfl rfl rfl ?_
    refine fV_iconst (pc' := 66) G dL_act_65 rfl ?_
    refine fV_iload_n (pc' := 67) G 0 dL_act_66 rfl rfl rfl ?_
    refine fV_bipush (n := 12) (pc' := 69) G dL_act_67 rfl rfl ?_
    have hl69 := klo (sr y 4) 12 (by decide)
    refine fV_callSf (st' := [.int (i32 (lo (sr y 4) 12)), .int (i32 1), .ref (Γ.1 0)]) (n := 2) (As := [.int (i32 (sr y 4)), .int (i32 12)]) (rest := [.int (i32 1), .ref (Γ.1 0)]) (pc' := 72) G (mL_low l Γ hN I P (sr y 4) 12 (by omega)) kcL_act_28 rfl rfl (Nat.le_of_ble_eq_true rfl) (Nat.zero_le _) (Nat.zero_le _) dL_act_69 rfl rfl ?_
    refine fV_iadd (pc' := 73) G dL_act_72 rfl ?_
    refine fV_iload_n (pc' := 74) G 2 dL_act_73 rfl rfl rfl ?_
    refine fV_bipush (n := 6) (pc' := 76) G dL_act_74 rfl rfl ?_
    refine fV_ishrr (t := sr y 6) (pc' := 77) G rfl dL_act_76 rfl ?_
    refine fV_bipush (n := 60) (pc' := 79) G dL_act_77 rfl rfl ?_
    have hl79 := klo (sr y 6) 60 (by decide)
    refine fV_callSf (st' := [.int (i32 (lo (sr y 6) 60)), .int (i32 (1 + (lo (sr y 4) 12))), .ref (Γ.1 0)]) (n := 2) (As := [.int (i32 (sr y 6)), .int (i32 60)]) (rest := [.int (i32 (1 + (lo (sr y 4) 12))), .ref (Γ.1 0)]) (pc' := 82) G (mL_low l Γ hN I P (sr y 6) 60 (by omega)) kcL_act_28 rfl rfl (Nat.le_of_ble_eq_true rfl) (Nat.zero_le _) (Nat.zero_le _) dL_act_79 rfl rfl ?_
    refine fV_iconst (pc' := 83) G dL_act_82 rfl ?_
    refine fV_iload_n (pc' := 84) G 2 dL_act_83 rfl rfl rfl ?_
    refine fV_iconst (pc' := 85) G dL_act_84 rfl ?_
    refine fV_ishrr (t := sr y 5) (pc' := 86) G rfl dL_act_85 rfl ?_
    refine fV_bipush (n := 30) (pc' := 88) G dL_act_86 rfl rfl ?_
    have hl88 := klo (sr y 5) 30 (by decide)
    refine fV_callSf (st' := [.int (i32 (lo (sr y 5) 30)), .int (i32 1), .int (i32 (lo (sr y 6) 60)), .int (i32 (1 + (lo (sr y 4) 12))), .ref (Γ.1 0)]) (n := 2) (As := [.int (i32 (sr y 5)), .int (i32 30)]) (rest := [.int (i32 1), .int (i32 (lo (sr y 6) 60)), .int (i32 (1 + (lo (sr y 4) 12))), .ref (Γ.1 0)]) (pc' := 91) G (mL_low l Γ hN I P (sr y 5) 30 (by omega)) kcL_act_28 rfl rfl (Nat.le_of_ble_eq_true rfl) (Nat.zero_le _) (Nat.zero_le _) dL_act_88 rfl rfl ?_
    refine fV_iadd (pc' := 92) G dL_act_91 rfl ?_
    refine fV_iload_n (pc' := 93) G 2 dL_act_92 rfl rfl rfl ?_
    refine fV_bipush (n := 7) (pc' := 95) G dL_act_93 rfl rfl ?_
    refine fV_ishrr (t := sr y 7) (pc' := 96) G rfl dL_act_95 rfl ?_
    refine fV_bipush (n := 20) (pc' := 98) G dL_act_96 rfl rfl ?_
    have hl98 := klo (sr y 7) 20 (by decide)
    refine fV_callSf (st' := [.int (i32 (lo (sr y 7) 20)), .int (i32 (1 + (lo (sr y 5) 30))), .int (i32 (lo (sr y 6) 60)), .int (i32 (1 + (lo (sr y 4) 12))), .ref (Γ.1 0)]) (n := 2) (As := [.int (i32 (sr y 7)), .int (i32 20)]) (rest := [.int (i32 (1 + (lo (sr y 5) 30))), .int (i32 (lo (sr y 6) 60)), .int (i32 (1 + (lo (sr y 4) 12))), .ref (Γ.1 0)]) (pc' := 101) G (mL_low l Γ hN I P (sr y 7) 20 (by omega)) kcL_act_28 rfl rfl (Nat.le_of_ble_eq_true rfl) (Nat.zero_le _) (Nat.zero_le _) dL_act_98 rfl rfl ?_
    refine fV_iload_n (pc' := 102) G 2 dL_act_101 rfl rfl rfl ?_
    refine fV_bipush (n := 8) (pc' := 104) G dL_act_102 rfl rfl ?_
    refine fV_ishrr (t := sr y 8) (pc' := 105) G rfl dL_act_104 rfl ?_
    refine fV_iconst (pc' := 106) G dL_act_105 rfl ?_
    have hl106 := klo (sr y 8) 5 (by decide)
    refine fV_callSf (st' := [.int (i32 (lo (sr y 8) 5)), .int (i32 (lo (sr y 7) 20)), .int (i32 (1 + (lo (sr y 5) 30))), .int (i32 (lo (sr y 6) 60)), .int (i32 (1 + (lo (sr y 4) 12))), .ref (Γ.1 0)]) (n := 2) (As := [.int (i32 (sr y 8)), .int (i32 5)]) (rest := [.int (i32 (lo (sr y 7) 20)), .int (i32 (1 + (lo (sr y 5) 30))), .int (i32 (lo (sr y 6) 60)), .int (i32 (1 + (lo (sr y 4) 12))), .ref (Γ.1 0)]) (pc' := 109) G (mL_low l Γ hN I P (sr y 8) 5 (by omega)) kcL_act_28 rfl rfl (Nat.le_of_ble_eq_true rfl) (Nat.zero_le _) (Nat.zero_le _) dL_act_106 rfl rfl ?_
    refine fV_callV (n := 5) (k := 0) (K := 3) (As := [.int (i32 (1 + (lo (sr y 4) 12))), .int (i32 (lo (sr y 6) 60)), .int (i32 (1 + (lo (sr y 5) 30))), .int (i32 (lo (sr y 7) 20)), .int (i32 (lo (sr y 8) 5))]) (rest := []) (pc' := 112) G (mX3_addWord l Γ hN I P (Sim_all S.1) (1 + (lo (sr y 4) 12)) (lo (sr y 6) 60) (1 + (lo (sr y 5) 30)) (lo (sr y 7) 20) (lo (sr y 8) 5) (by omega) (by omega) (by omega) (by omega) (by omega)) kcL_act_33 (by omega) rfl rfl rfl rfl (Nat.le_of_ble_eq_true rfl) (Nat.zero_le _) (Nat.zero_le _) dL_act_109 rfl (fun v2 I3 P4 h5 => ?_)
    obtain ⟨hv, hA⟩ := h5
    obtain ⟨hq, hO⟩ := g_add S hκ hA
    rw [hq] at hv
    obtain ⟨K, hK, hO⟩ := hO
    refine fV_gh hK ?_
    refine fV_st (st' := [.int (i32 (vAdd σ (1 + (lo (sr y 4) 12)) (lo (sr y 6) 60) (1 + (lo (sr y 5) 30)) (lo (sr y 7) 20) (lo (sr y 8) 5)))]) (by rw [hv]; rfl) ?_
    refine fV_iret G dL_act_112 ?_
    have eV : aV σ y = vAdd σ (1 + (lo (sr y 4) 12)) (lo (sr y 6) 60) (1 + (lo (sr y 5) 30)) (lo (sr y 7) 20) (lo (sr y 8) 5) := by unfold aV; rw [if_pos (by omega)]
    have eT : aT σ y = tAdd σ (1 + (lo (sr y 4) 12)) (lo (sr y 6) 60) (1 + (lo (sr y 5) 30)) (lo (sr y 7) 20) (lo (sr y 8) 5) := by unfold aT; rw [if_pos (by omega)]
    exact ⟨by rw [eV], by rw [eV, eT]; exact hO, fun z => by omega⟩
  by_cases c2 : kd y = 1
  · refine fV_tableIn (off := 56) (tgt := 64) G dL_act_8 (by omega) (by omega) (by omega) (by rw [c2]; rfl) (by decide) ?_
    refine fV_aload_n (pc' := 65) G 1 dL_act_64 rfl rfl rfl ?_
    refine fV_iconst (pc' := 66) G dL_act_65 rfl ?_
    refine fV_iload_n (pc' := 67) G 0 dL_act_66 rfl rfl rfl ?_
    refine fV_bipush (n := 12) (pc' := 69) G dL_act_67 rfl rfl ?_
    have hl69 := klo (sr y 4) 12 (by decide)
    refine fV_callSf (st' := [.int (i32 (lo (sr y 4) 12)), .int (i32 1), .ref (Γ.1 0)]) (n := 2) (As := [.int (i32 (sr y 4)), .int (i32 12)]) (rest := [.int (i32 1), .ref (Γ.1 0)]) (pc' := 72) G (mL_low l Γ hN I P (sr y 4) 12 (by omega)) kcL_act_28 rfl rfl (Nat.le_of_ble_eq_true rfl) (Nat.zero_le _) (Nat.zero_le _) dL_act_69 rfl rfl ?_
    refine fV_iadd (pc' := 73) G dL_act_72 rfl ?_
    refine fV_iload_n (pc' := 74) G 2 dL_act_73 rfl rfl rfl ?_
    refine fV_bipush (n := 6) (pc' := 76) G dL_act_74 rfl rfl ?_
    refine fV_ishrr (t := sr y 6) (pc' := 77) G rfl dL_act_76 rfl ?_
    refine fV_bipush (n := 60) (pc' := 79) G dL_act_77 rfl rfl ?_
    have hl79 := klo (sr y 6) 60 (by decide)
    refine fV_callSf (st' := [.int (i32 (lo (sr y 6) 60)), .int (i32 (1 + (lo (sr y 4) 12))), .ref (Γ.1 0)]) (n := 2) (As := [.int (i32 (sr y 6)), .int (i32 60)]) (rest := [.int (i32 (1 + (lo (sr y 4) 12))), .ref (Γ.1 0)]) (pc' := 82) G (mL_low l Γ hN I P (sr y 6) 60 (by omega)) kcL_act_28 rfl rfl (Nat.le_of_ble_eq_true rfl) (Nat.zero_le _) (Nat.zero_le _) dL_act_79 rfl rfl ?_
    refine fV_iconst (pc' := 83) G dL_act_82 rfl ?_
    refine fV_iload_n (pc' := 84) G 2 dL_act_83 rfl rfl rfl ?_
    refine fV_iconst (pc' := 85) G dL_act_84 rfl ?_
    refine fV_ishrr (t := sr y 5) (pc' := 86) G rfl dL_act_85 rfl ?_
    refine fV_bipush (n := 30) (pc' := 88) G dL_act_86 rfl rfl ?_
    have hl88 := klo (sr y 5) 30 (by decide)
    refine fV_callSf (st' := [.int (i32 (lo (sr y 5) 30)), .int (i32 1), .int (i32 (lo (sr y 6) 60)), .int (i32 (1 + (lo (sr y 4) 12))), .ref (Γ.1 0)]) (n := 2) (As := [.int (i32 (sr y 5)), .int (i32 30)]) (rest := [.int (i32 1), .int (i32 (lo (sr y 6) 60)), .int (i32 (1 + (lo (sr y 4) 12))), .ref (Γ.1 0)]) (pc' := 91) G (mL_low l Γ hN I P (sr y 5) 30 (by omega)) kcL_act_28 rfl rfl (Nat.le_of_ble_eq_true rfl) (Nat.zero_le _) (Nat.zero_le _) dL_act_88 rfl rfl ?_
    refine fV_iadd (pc' := 92) G dL_act_91 rfl ?_
    refine fV_iload_n (pc' := 93) G 2 dL_act_92 rfl rfl rfl ?_
    refine fV_bipush (n := 7) (pc' := 95) G dL_act_93 rfl rfl ?_
    refine fV_ishrr (t := sr y 7) (pc' := 96) G rfl dL_act_95 rfl ?_
    refine fV_bipush (n := 20) (pc' := 98) G dL_act_96 rfl rfl ?_
    have hl98 := klo (sr y 7) 20 (by decide)
    refine fV_callSf (st' := [.int (i32 (lo (sr y 7) 20)), .int (i32 (1 + (lo (sr y 5) 30))), .int (i32 (lo (sr y 6) 60)), .int (i32 (1 + (lo (sr y 4) 12))), .ref (Γ.1 0)]) (n := 2) (As := [.int (i32 (sr y 7)), .int (i32 20)]) (rest := [.int (i32 (1 + (lo (sr y 5) 30))), .int (i32 (lo (sr y 6) 60)), .int (i32 (1 + (lo (sr y 4) 12))), .ref (Γ.1 0)]) (pc' := 101) G (mL_low l Γ hN I P (sr y 7) 20 (by omega)) kcL_act_28 rfl rfl (Nat.le_of_ble_eq_true rfl) (Nat.zero_le _) (Nat.zero_le _) dL_act_98 rfl rfl ?_
    refine fV_iload_n (pc' := 102) G 2 dL_act_101 rfl rfl rfl ?_
    refine fV_bipush (n := 8) (pc' := 104) G dL_act_102 rfl rfl ?_
    refine fV_ishrr (t := sr y 8) (pc' := 105) G rfl dL_act_104 rfl ?_
    refine fV_iconst (pc' := 106) G dL_act_105 rfl ?_
    have hl106 := klo (sr y 8) 5 (by decide)
    refine fV_callSf (st' := [.int (i32 (lo (sr y 8) 5)), .int (i32 (lo (sr y 7) 20)), .int (i32 (1 + (lo (sr y 5) 30))), .int (i32 (lo (sr y 6) 60)), .int (i32 (1 + (lo (sr y 4) 12))), .ref (Γ.1 0)]) (n := 2) (As := [.int (i32 (sr y 8)), .int (i32 5)]) (rest := [.int (i32 (lo (sr y 7) 20)), .int (i32 (1 + (lo (sr y 5) 30))), .int (i32 (lo (sr y 6) 60)), .int (i32 (1 + (lo (sr y 4) 12))), .ref (Γ.1 0)]) (pc' := 109) G (mL_low l Γ hN I P (sr y 8) 5 (by omega)) kcL_act_28 rfl rfl (Nat.le_of_ble_eq_true rfl) (Nat.zero_le _) (Nat.zero_le _) dL_act_106 rfl rfl ?_
    refine fV_callV (n := 5) (k := 0) (K := 3) (As := [.int (i32 (1 + (lo (sr y 4) 12))), .int (i32 (lo (sr y 6) 60)), .int (i32 (1 + (lo (sr y 5) 30))), .int (i32 (lo (sr y 7) 20)), .int (i32 (lo (sr y 8) 5))]) (rest := []) (pc' := 112) G (mX3_addWord l Γ hN I P (Sim_all S.1) (1 + (lo (sr y 4) 12)) (lo (sr y 6) 60) (1 + (lo (sr y 5) 30)) (lo (sr y 7) 20) (lo (sr y 8) 5) (by omega) (by omega) (by omega) (by omega) (by omega)) kcL_act_33 (by omega) rfl rfl rfl rfl (Nat.le_of_ble_eq_true rfl) (Nat.zero_le _) (Nat.zero_le _) dL_act_109 rfl (fun v3 I4 P5 h6 => ?_)
    obtain ⟨hv, hA⟩ := h6
    obtain ⟨hq, hO⟩ := g_add S hκ hA
    rw [hq] at hv
    obtain ⟨K, hK, hO⟩ := hO
    refine fV_gh hK ?_
    refine fV_st (st' := [.int (i32 (vAdd σ (1 + (lo (sr y 4) 12)) (lo (sr y 6) 60) (1 + (lo (sr y 5) 30)) (lo (sr y 7) 20) (lo (sr y 8) 5)))]) (by rw [hv]; rfl) ?_
    refine fV_iret G dL_act_112 ?_
    have eV : aV σ y = vAdd σ (1 + (lo (sr y 4) 12)) (lo (sr y 6) 60) (1 + (lo (sr y 5) 30)) (lo (sr y 7) 20) (lo (sr y 8) 5) := by unfold aV; rw [if_pos (by omega)]
    have eT : aT σ y = tAdd σ (1 + (lo (sr y 4) 12)) (lo (sr y 6) 60) (1 + (lo (sr y 5) 30)) (lo (sr y 7) 20) (lo (sr y 8) 5) := by unfold aT; rw [if_pos (by omega)]
    exact ⟨by rw [eV], by rw [eV, eT]; exact hO, fun z => by omega⟩
  by_cases c3 : kd y = 2
  · refine fV_tableIn (off := 56) (tgt := 64) G dL_act_8 (by omega) (by omega) (by omega) (by rw [c3]; rfl) (by decide) ?_
    refine fV_aload_n (pc' := 65) G 1 dL_act_64 rfl rfl rfl ?_
    refine fV_iconst (pc' := 66) G dL_act_65 rfl ?_
    refine fV_iload_n (pc' := 67) G 0 dL_act_66 rfl rfl rfl ?_
    refine fV_bipush (n := 12) (pc' := 69) G dL_act_67 rfl rfl ?_
    have hl69 := klo (sr y 4) 12 (by decide)
    refine fV_callSf (st' := [.int (i32 (lo (sr y 4) 12)), .int (i32 1), .ref (Γ.1 0)]) (n := 2) (As := [.int (i32 (sr y 4)), .int (i32 12)]) (rest := [.int (i32 1), .ref (Γ.1 0)]) (pc' := 72) G (mL_low l Γ hN I P (sr y 4) 12 (by omega)) kcL_act_28 rfl rfl (Nat.le_of_ble_eq_true rfl) (Nat.zero_le _) (Nat.zero_le _) dL_act_69 rfl rfl ?_
    refine fV_iadd (pc' := 73) G dL_act_72 rfl ?_
    refine fV_iload_n (pc' := 74) G 2 dL_act_73 rfl rfl rfl ?_
    refine fV_bipush (n := 6) (pc' := 76) G dL_act_74 rfl rfl ?_
    refine fV_ishrr (t := sr y 6) (pc' := 77) G rfl dL_act_76 rfl ?_
    refine fV_bipush (n := 60) (pc' := 79) G dL_act_77 rfl rfl ?_
    have hl79 := klo (sr y 6) 60 (by decide)
    refine fV_callSf (st' := [.int (i32 (lo (sr y 6) 60)), .int (i32 (1 + (lo (sr y 4) 12))), .ref (Γ.1 0)]) (n := 2) (As := [.int (i32 (sr y 6)), .int (i32 60)]) (rest := [.int (i32 (1 + (lo (sr y 4) 12))), .ref (Γ.1 0)]) (pc' := 82) G (mL_low l Γ hN I P (sr y 6) 60 (by omega)) kcL_act_28 rfl rfl (Nat.le_of_ble_eq_true rfl) (Nat.zero_le _) (Nat.zero_le _) dL_act_79 rfl rfl ?_
    refine fV_iconst (pc' := 83) G dL_act_82 rfl ?_
    refine fV_iload_n (pc' := 84) G 2 dL_act_83 rfl rfl rfl ?_
    refine fV_iconst (pc' := 85) G dL_act_84 rfl ?_
    refine fV_ishrr (t := sr y 5) (pc' := 86) G rfl dL_act_85 rfl ?_
    refine fV_bipush (n := 30) (pc' := 88) G dL_act_86 rfl rfl ?_
    have hl88 := klo (sr y 5) 30 (by decide)
    refine fV_callSf (st' := [.int (i32 (lo (sr y 5) 30)), .int (i32 1), .int (i32 (lo (sr y 6) 60)), .int (i32 (1 + (lo (sr y 4) 12))), .ref (Γ.1 0)]) (n := 2) (As := [.int (i32 (sr y 5)), .int (i32 30)]) (rest := [.int (i32 1), .int (i32 (lo (sr y 6) 60)), .int (i32 (1 + (lo (sr y 4) 12))), .ref (Γ.1 0)]) (pc' := 91) G (mL_low l Γ hN I P (sr y 5) 30 (by omega)) kcL_act_28 rfl rfl (Nat.le_of_ble_eq_true rfl) (Nat.zero_le _) (Nat.zero_le _) dL_act_88 rfl rfl ?_
    refine fV_iadd (pc' := 92) G dL_act_91 rfl ?_
    refine fV_iload_n (pc' := 93) G 2 dL_act_92 rfl rfl rfl ?_
    refine fV_bipush (n := 7) (pc' := 95) G dL_act_93 rfl rfl ?_
    refine fV_ishrr (t := sr y 7) (pc' := 96) G rfl dL_act_95 rfl ?_
    refine fV_bipush (n := 20) (pc' := 98) G dL_act_96 rfl rfl ?_
    have hl98 := klo (sr y 7) 20 (by decide)
    refine fV_callSf (st' := [.int (i32 (lo (sr y 7) 20)), .int (i32 (1 + (lo (sr y 5) 30))), .int (i32 (lo (sr y 6) 60)), .int (i32 (1 + (lo (sr y 4) 12))), .ref (Γ.1 0)]) (n := 2) (As := [.int (i32 (sr y 7)), .int (i32 20)]) (rest := [.int (i32 (1 + (lo (sr y 5) 30))), .int (i32 (lo (sr y 6) 60)), .int (i32 (1 + (lo (sr y 4) 12))), .ref (Γ.1 0)]) (pc' := 101) G (mL_low l Γ hN I P (sr y 7) 20 (by omega)) kcL_act_28 rfl rfl (Nat.le_of_ble_eq_true rfl) (Nat.zero_le _) (Nat.zero_le _) dL_act_98 rfl rfl ?_
    refine fV_iload_n (pc' := 102) G 2 dL_act_101 rfl rfl rfl ?_
    refine fV_bipush (n := 8) (pc' := 104) G dL_act_102 rfl rfl ?_
    refine fV_ishrr (t := sr y 8) (pc' := 105) G rfl dL_act_104 rfl ?_
    refine fV_iconst (pc' := 106) G dL_act_105 rfl ?_
    have hl106 := klo (sr y 8) 5 (by decide)
    refine fV_callSf (st' := [.int (i32 (lo (sr y 8) 5)), .int (i32 (lo (sr y 7) 20)), .int (i32 (1 + (lo (sr y 5) 30))), .int (i32 (lo (sr y 6) 60)), .int (i32 (1 + (lo (sr y 4) 12))), .ref (Γ.1 0)]) (n := 2) (As := [.int (i32 (sr y 8)), .int (i32 5)]) (rest := [.int (i32 (lo (sr y 7) 20)), .int (i32 (1 + (lo (sr y 5) 30))), .int (i32 (lo (sr y 6) 60)), .int (i32 (1 + (lo (sr y 4) 12))), .ref (Γ.1 0)]) (pc' := 109) G (mL_low l Γ hN I P (sr y 8) 5 (by omega)) kcL_act_28 rfl rfl (Nat.le_of_ble_eq_true rfl) (Nat.zero_le _) (Nat.zero_le _) dL_act_106 rfl rfl ?_
    refine fV_callV (n := 5) (k := 0) (K := 3) (As := [.int (i32 (1 + (lo (sr y 4) 12))), .int (i32 (lo (sr y 6) 60)), .int (i32 (1 + (lo (sr y 5) 30))), .int (i32 (lo (sr y 7) 20)), .int (i32 (lo (sr y 8) 5))]) (rest := []) (pc' := 112) G (mX3_addWord l Γ hN I P (Sim_all S.1) (1 + (lo (sr y 4) 12)) (lo (sr y 6) 60) (1 + (lo (sr y 5) 30)) (lo (sr y 7) 20) (lo (sr y 8) 5) (by omega) (by omega) (by omega) (by omega) (by omega)) kcL_act_33 (by omega) rfl rfl rfl rfl (Nat.le_of_ble_eq_true rfl) (Nat.zero_le _) (Nat.zero_le _) dL_act_109 rfl (fun v4 I5 P6 h7 => ?_)
    obtain ⟨hv, hA⟩ := h7
    obtain ⟨hq, hO⟩ := g_add S hκ hA
    rw [hq] at hv
    obtain ⟨K, hK, hO⟩ := hO
    refine fV_gh hK ?_
    refine fV_st (st' := [.int (i32 (vAdd σ (1 + (lo (sr y 4) 12)) (lo (sr y 6) 60) (1 + (lo (sr y 5) 30)) (lo (sr y 7) 20) (lo (sr y 8) 5)))]) (by rw [hv]; rfl) ?_
    refine fV_iret G dL_act_112 ?_
    have eV : aV σ y = vAdd σ (1 + (lo (sr y 4) 12)) (lo (sr y 6) 60) (1 + (lo (sr y 5) 30)) (lo (sr y 7) 20) (lo (sr y 8) 5) := by unfold aV; rw [if_pos (by omega)]
    have eT : aT σ y = tAdd σ (1 + (lo (sr y 4) 12)) (lo (sr y 6) 60) (1 + (lo (sr y 5) 30)) (lo (sr y 7) 20) (lo (sr y 8) 5) := by unfold aT; rw [if_pos (by omega)]
    exact ⟨by rw [eV], by rw [eV, eT]; exact hO, fun z => by omega⟩
  by_cases c4 : kd y = 3
  · refine fV_tableIn (off := 105) (tgt := 113) G dL_act_8 (by omega) (by omega) (by omega) (by rw [c4]; rfl) (by decide) ?_
    refine fV_aload_n (pc' := 114) G 1 dL_act_113 rfl rfl rfl ?_
    refine fV_iload_n (pc' := 115) G 0 dL_act_114 rfl rfl rfl ?_
    refine fV_iconst (pc' := 116) G dL_act_115 rfl ?_
    have hl116 := klo (sr y 4) 5 (by decide)
    refine fV_callSf (st' := [.int (i32 (lo (sr y 4) 5)), .ref (Γ.1 0)]) (n := 2) (As := [.int (i32 (sr y 4)), .int (i32 5)]) (rest := [.ref (Γ.1 0)]) (pc' := 119) G (mL_low l Γ hN I P (sr y 4) 5 (by omega)) kcL_act_28 rfl rfl (Nat.le_of_ble_eq_true rfl) (Nat.zero_le _) (Nat.zero_le _) dL_act_116 rfl rfl ?_
    refine fV_callV (n := 1) (k := 0) (K := 3) (As := [.int (i32 (lo (sr y 4) 5))]) (rest := []) (pc' := 122) G (mX3_removeWord l Γ hN I P (Sim_all S.1) (lo (sr y 4) 5) (by omega)) kcL_act_37 (by omega) rfl rfl rfl rfl (Nat.le_of_ble_eq_true rfl) (Nat.zero_le _) (Nat.zero_le _) dL_act_119 rfl (fun v5 I6 P7 h8 => ?_)
    obtain ⟨hv, hA⟩ := h8
    obtain ⟨hq, hO⟩ := g_rem S hκ hA
    rw [hq] at hv
    obtain ⟨K, hK, hO⟩ := hO
    refine fV_gh hK ?_
    refine fV_st (st' := [.int (i32 (vRem σ (lo (sr y 4) 5)))]) (by rw [hv]; rfl) ?_
    refine fV_iret G dL_act_122 ?_
    have eV : aV σ y = vRem σ (lo (sr y 4) 5) := by unfold aV; rw [if_neg (by omega), if_pos (by omega)]
    have eT : aT σ y = tRem σ (lo (sr y 4) 5) := by unfold aT; rw [if_neg (by omega), if_pos (by omega)]
    exact ⟨by rw [eV], by rw [eV, eT]; exact hO, fun z => by omega⟩
  by_cases c5 : kd y = 4
  · refine fV_tableIn (off := 115) (tgt := 123) G dL_act_8 (by omega) (by omega) (by omega) (by rw [c5]; rfl) (by decide) ?_
    refine fV_aload_n (pc' := 124) G 1 dL_act_123 rfl rfl rfl ?_
    refine fV_iload_n (pc' := 125) G 0 dL_act_124 rfl rfl rfl ?_
    refine fV_iconst (pc' := 126) G dL_act_125 rfl ?_
    have hl126 := klo (sr y 4) 5 (by decide)
    refine fV_callSf (st' := [.int (i32 (lo (sr y 4) 5)), .ref (Γ.1 0)]) (n := 2) (As := [.int (i32 (sr y 4)), .int (i32 5)]) (rest := [.ref (Γ.1 0)]) (pc' := 129) G (mL_low l Γ hN I P (sr y 4) 5 (by omega)) kcL_act_28 rfl rfl (Nat.le_of_ble_eq_true rfl) (Nat.zero_le _) (Nat.zero_le _) dL_act_126 rfl rfl ?_
    refine fV_iload_n (pc' := 130) G 2 dL_act_129 rfl rfl rfl ?_
    refine fV_bipush (n := 7) (pc' := 132) G dL_act_130 rfl rfl ?_
    refine fV_ishrr (t := sr y 7) (pc' := 133) G rfl dL_act_132 rfl ?_
    refine fV_iconst (pc' := 134) G dL_act_133 rfl ?_
    have hl134 := klo (sr y 7) 4 (by decide)
    refine fV_callSf (st' := [.int (i32 (lo (sr y 7) 4)), .int (i32 (lo (sr y 4) 5)), .ref (Γ.1 0)]) (n := 2) (As := [.int (i32 (sr y 7)), .int (i32 4)]) (rest := [.int (i32 (lo (sr y 4) 5)), .ref (Γ.1 0)]) (pc' := 137) G (mL_low l Γ hN I P (sr y 7) 4 (by omega)) kcL_act_28 rfl rfl (Nat.le_of_ble_eq_true rfl) (Nat.zero_le _) (Nat.zero_le _) dL_act_134 rfl rfl ?_
    refine fV_iload_n (pc' := 138) G 2 dL_act_137 rfl rfl rfl ?_
    refine fV_bipush (n := 6) (pc' := 140) G dL_act_138 rfl rfl ?_
    refine fV_ishrr (t := sr y 6) (pc' := 141) G rfl dL_act_140 rfl ?_
    refine fV_bipush (n := 8) (pc' := 143) G dL_act_141 rfl rfl ?_
    have hl143 := klo (sr y 6) 8 (by decide)
    refine fV_callSf (st' := [.int (i32 (lo (sr y 6) 8)), .int (i32 (lo (sr y 7) 4)), .int (i32 (lo (sr y 4) 5)), .ref (Γ.1 0)]) (n := 2) (As := [.int (i32 (sr y 6)), .int (i32 8)]) (rest := [.int (i32 (lo (sr y 7) 4)), .int (i32 (lo (sr y 4) 5)), .ref (Γ.1 0)]) (pc' := 146) G (mL_low l Γ hN I P (sr y 6) 8 (by omega)) kcL_act_28 rfl rfl (Nat.le_of_ble_eq_true rfl) (Nat.zero_le _) (Nat.zero_le _) dL_act_143 rfl rfl ?_
    refine fV_callV (n := 3) (k := 0) (K := 3) (As := [.int (i32 (lo (sr y 4) 5)), .int (i32 (lo (sr y 7) 4)), .int (i32 (lo (sr y 6) 8))]) (rest := []) (pc' := 149) G (mX3_setWord l Γ hN I P (Sim_all S.1) (lo (sr y 4) 5) (lo (sr y 7) 4) (lo (sr y 6) 8) (by omega) (by omega) (by omega)) kcL_act_40 (by omega) rfl rfl rfl rfl (Nat.le_of_ble_eq_true rfl) (Nat.zero_le _) (Nat.zero_le _) dL_act_146 rfl (fun v6 I7 P8 h9 => ?_)
    obtain ⟨hv, hA⟩ := h9
    obtain ⟨hq, hO⟩ := g_set S hκ hA
    rw [hq] at hv
    obtain ⟨K, hK, hO⟩ := hO
    refine fV_gh hK ?_
    refine fV_st (st' := [.int (i32 (vSet σ (lo (sr y 4) 5) (lo (sr y 7) 4) (lo (sr y 6) 8)))]) (by rw [hv]; rfl) ?_
    refine fV_iret G dL_act_149 ?_
    have eV : aV σ y = vSet σ (lo (sr y 4) 5) (lo (sr y 7) 4) (lo (sr y 6) 8) := by unfold aV; rw [if_neg (by omega), if_neg (by omega), if_pos (by omega)]
    have eT : aT σ y = tSet σ (lo (sr y 4) 5) (lo (sr y 7) 4) (lo (sr y 6) 8) := by unfold aT; rw [if_neg (by omega), if_neg (by omega), if_pos (by omega)]
    exact ⟨by rw [eV], by rw [eV, eT]; exact hO, fun z => by omega⟩
  by_cases c6 : kd y = 5
  · refine fV_tableIn (off := 142) (tgt := 150) G dL_act_8 (by omega) (by omega) (by omega) (by rw [c6]; rfl) (by decide) ?_
    refine fV_aload_n (pc' := 151) G 1 dL_act_150 rfl rfl rfl ?_
    refine fV_iconst (pc' := 152) G dL_act_151 rfl ?_
    refine fV_iload_n (pc' := 153) G 0 dL_act_152 rfl rfl rfl ?_
    refine fV_bipush (n := 90) (pc' := 155) G dL_act_153 rfl rfl ?_
    have hl155 := klo (sr y 4) 90 (by decide)
    refine fV_callSf (st' := [.int (i32 (lo (sr y 4) 90)), .int (i32 1), .ref (Γ.1 0)]) (n := 2) (As := [.int (i32 (sr y 4)), .int (i32 90)]) (rest := [.int (i32 1), .ref (Γ.1 0)]) (pc' := 158) G (mL_low l Γ hN I P (sr y 4) 90 (by omega)) kcL_act_28 rfl rfl (Nat.le_of_ble_eq_true rfl) (Nat.zero_le _) (Nat.zero_le _) dL_act_155 rfl rfl ?_
    refine fV_iadd (pc' := 159) G dL_act_158 rfl ?_
    refine fV_callV (n := 1) (k := 0) (K := 3) (As := [.int (i32 (1 + (lo (sr y 4) 90)))]) (rest := []) (pc' := 162) G (mX3_addShot l Γ hN I P (Sim_all S.1) (1 + (lo (sr y 4) 90)) (by omega)) kcL_act_44 (by omega) rfl rfl rfl rfl (Nat.le_of_ble_eq_true rfl) (Nat.zero_le _) (Nat.zero_le _) dL_act_159 rfl (fun v7 I8 P9 h10 => ?_)
    obtain ⟨hv, hA⟩ := h10
    obtain ⟨hq, hO⟩ := g_ash S hκ hA
    rw [hq] at hv
    obtain ⟨K, hK, hO⟩ := hO
    refine fV_gh hK ?_
    refine fV_st (st' := [.int (i32 (vAsh σ (1 + (lo (sr y 4) 90))))]) (by rw [hv]; rfl) ?_
    refine fV_iret G dL_act_162 ?_
    have eV : aV σ y = vAsh σ (1 + (lo (sr y 4) 90)) := by unfold aV; rw [if_neg (by omega), if_neg (by omega), if_neg (by omega), if_pos (by omega)]
    have eT : aT σ y = tAsh σ (1 + (lo (sr y 4) 90)) := by unfold aT; rw [if_neg (by omega), if_neg (by omega), if_neg (by omega), if_pos (by omega)]
    exact ⟨by rw [eV], by rw [eV, eT]; exact hO, fun z => by omega⟩
  by_cases c7 : kd y = 6
  · refine fV_tableIn (off := 155) (tgt := 163) G dL_act_8 (by omega) (by omega) (by omega) (by rw [c7]; rfl) (by decide) ?_
    refine fV_aload_n (pc' := 164) G 1 dL_act_163 rfl rfl rfl ?_
    refine fV_iconst (pc' := 165) G dL_act_164 rfl ?_
    refine fV_iload_n (pc' := 166) G 0 dL_act_165 rfl rfl rfl ?_
    refine fV_bipush (n := 90) (pc' := 168) G dL_act_166 rfl rfl ?_
    have hl168 := klo (sr y 4) 90 (by decide)
    refine fV_callSf (st' := [.int (i32 (lo (sr y 4) 90)), .int (i32 1), .ref (Γ.1 0)]) (n := 2) (As := [.int (i32 (sr y 4)), .int (i32 90)]) (rest := [.int (i32 1), .ref (Γ.1 0)]) (pc' := 171) G (mL_low l Γ hN I P (sr y 4) 90 (by omega)) kcL_act_28 rfl rfl (Nat.le_of_ble_eq_true rfl) (Nat.zero_le _) (Nat.zero_le _) dL_act_168 rfl rfl ?_
    refine fV_iadd (pc' := 172) G dL_act_171 rfl ?_
    refine fV_callV (n := 1) (k := 0) (K := 3) (As := [.int (i32 (1 + (lo (sr y 4) 90)))]) (rest := []) (pc' := 175) G (mX3_removeShot l Γ hN I P (Sim_all S.1) (1 + (lo (sr y 4) 90)) (by omega)) kcL_act_47 (by omega) rfl rfl rfl rfl (Nat.le_of_ble_eq_true rfl) (Nat.zero_le _) (Nat.zero_le _) dL_act_172 rfl (fun v8 I9 P10 h11 => ?_)
    obtain ⟨hv, hA⟩ := h11
    obtain ⟨hq, hO⟩ := g_rsh S hκ hA
    rw [hq] at hv
    obtain ⟨K, hK, hO⟩ := hO
    refine fV_gh hK ?_
    refine fV_st (st' := [.int (i32 (vRsh σ (1 + (lo (sr y 4) 90))))]) (by rw [hv]; rfl) ?_
    refine fV_iret G dL_act_175 ?_
    have eV : aV σ y = vRsh σ (1 + (lo (sr y 4) 90)) := by unfold aV; rw [if_neg (by omega), if_neg (by omega), if_neg (by omega), if_neg (by omega), if_pos (by omega)]
    have eT : aT σ y = tRsh σ (1 + (lo (sr y 4) 90)) := by unfold aT; rw [if_neg (by omega), if_neg (by omega), if_neg (by omega), if_neg (by omega), if_pos (by omega)]
    exact ⟨by rw [eV], by rw [eV, eT]; exact hO, fun z => by omega⟩
  by_cases c8 : kd y = 7
  · refine fV_tableIn (off := 168) (tgt := 176) G dL_act_8 (by omega) (by omega) (by omega) (by rw [c8]; rfl) (by decide) ?_
    refine fV_aload_n (pc' := 177) G 1 dL_act_176 rfl rfl rfl ?_
    refine fV_bipush (n := 50) (pc' := 179) G dL_act_177 rfl rfl ?_
    refine fV_iload_n (pc' := 180) G 0 dL_act_179 rfl rfl rfl ?_
    refine fV_sipush (n := 351) (pc' := 183) G dL_act_180 rfl rfl ?_
    have hl183 := klo (sr y 4) 351 (by decide)
    refine fV_callSf (st' := [.int (i32 (lo (sr y 4) 351)), .int (i32 50), .ref (Γ.1 0)]) (n := 2) (As := [.int (i32 (sr y 4)), .int (i32 351)]) (rest := [.int (i32 50), .ref (Γ.1 0)]) (pc' := 186) G (mL_low l Γ hN I P (sr y 4) 351 (by omega)) kcL_act_28 rfl rfl (Nat.le_of_ble_eq_true rfl) (Nat.zero_le _) (Nat.zero_le _) dL_act_183 rfl rfl ?_
    refine fV_iadd (pc' := 187) G dL_act_186 rfl ?_
    refine fV_callV (n := 1) (k := 0) (K := 3) (As := [.int (i32 (50 + (lo (sr y 4) 351)))]) (rest := []) (pc' := 190) G (mX3_setSpeed l Γ hN I P (Sim_all S.1) (50 + (lo (sr y 4) 351)) (by omega)) kcL_act_50 (by omega) rfl rfl rfl rfl (Nat.le_of_ble_eq_true rfl) (Nat.zero_le _) (Nat.zero_le _) dL_act_187 rfl (fun v9 I10 P11 h12 => ?_)
    obtain ⟨hv, hA⟩ := h12
    obtain ⟨hq, hO⟩ := g_spd S hκ hA
    rw [hq] at hv
    obtain ⟨K, hK, hO⟩ := hO
    refine fV_gh hK ?_
    refine fV_st (st' := [.int (i32 (vSpd σ (50 + (lo (sr y 4) 351))))]) (by rw [hv]; rfl) ?_
    refine fV_iret G dL_act_190 ?_
    have eV : aV σ y = vSpd σ (50 + (lo (sr y 4) 351)) := by unfold aV; rw [if_neg (by omega), if_neg (by omega), if_neg (by omega), if_neg (by omega), if_neg (by omega), if_pos (by omega)]
    have eT : aT σ y = tSpd σ (50 + (lo (sr y 4) 351)) := by unfold aT; rw [if_neg (by omega), if_neg (by omega), if_neg (by omega), if_neg (by omega), if_neg (by omega), if_pos (by omega)]
    exact ⟨by rw [eV], by rw [eV, eT]; exact hO, fun z => by omega⟩
  by_cases c9 : kd y = 8
  · refine fV_tableIn (off := 183) (tgt := 191) G dL_act_8 (by omega) (by omega) (by omega) (by rw [c9]; rfl) (by decide) ?_
    refine fV_aload_n (pc' := 192) G 1 dL_act_191 rfl rfl rfl ?_
    refine fV_iload_n (pc' := 193) G 0 dL_act_192 rfl rfl rfl ?_
    refine fV_iconst (pc' := 194) G dL_act_193 rfl ?_
    have hl194 := klo (sr y 4) 5 (by decide)
    refine fV_callSf (st' := [.int (i32 (lo (sr y 4) 5)), .ref (Γ.1 0)]) (n := 2) (As := [.int (i32 (sr y 4)), .int (i32 5)]) (rest := [.ref (Γ.1 0)]) (pc' := 197) G (mL_low l Γ hN I P (sr y 4) 5 (by omega)) kcL_act_28 rfl rfl (Nat.le_of_ble_eq_true rfl) (Nat.zero_le _) (Nat.zero_le _) dL_act_194 rfl rfl ?_
    refine fV_callV (n := 1) (k := 0) (K := 3) (As := [.int (i32 (lo (sr y 4) 5))]) (rest := []) (pc' := 200) G (mX3_take l Γ hN I P (Sim_all S.1) (lo (sr y 4) 5) (by omega)) kcL_act_53 (by omega) rfl rfl rfl rfl (Nat.le_of_ble_eq_true rfl) (Nat.zero_le _) (Nat.zero_le _) dL_act_197 rfl (fun v10 I11 P12 h13 => ?_)
    obtain ⟨hv, hA⟩ := h13
    obtain ⟨hq, hO⟩ := g_tak S hκ hA
    rw [hq] at hv
    obtain ⟨K, hK, hO⟩ := hO
    refine fV_gh hK ?_
    refine fV_st (st' := [.int (i32 (vTak σ (lo (sr y 4) 5)))]) (by rw [hv]; rfl) ?_
    refine fV_iret G dL_act_200 ?_
    have eV : aV σ y = vTak σ (lo (sr y 4) 5) := by unfold aV; rw [if_neg (by omega), if_neg (by omega), if_neg (by omega), if_neg (by omega), if_neg (by omega), if_neg (by omega), if_pos (by omega)]
    have eT : aT σ y = tTak σ (lo (sr y 4) 5) := by unfold aT; rw [if_neg (by omega), if_neg (by omega), if_neg (by omega), if_neg (by omega), if_neg (by omega), if_neg (by omega), if_pos (by omega)]
    exact ⟨by rw [eV], by rw [eV, eT]; exact hO, fun z => by omega⟩
  by_cases c10 : kd y = 9
  · refine fV_tableIn (off := 193) (tgt := 201) G dL_act_8 (by omega) (by omega) (by omega) (by rw [c10]; rfl) (by decide) ?_
    refine fV_aload_n (pc' := 202) G 1 dL_act_201 rfl rfl rfl ?_
    refine fV_callV (n := 0) (k := 0) (K := 3) (As := []) (rest := []) (pc' := 205) G (mX3_putAll l Γ hN I P (Sim_all S.1)  ) kcL_act_56 (by omega) rfl rfl rfl rfl (Nat.le_of_ble_eq_true rfl) (Nat.zero_le _) (Nat.zero_le _) dL_act_202 rfl (fun v11 I12 P13 h14 => ?_)
    obtain ⟨hv, hO⟩ := g_pal S hκ h14
    obtain ⟨⟨-, hoo⟩, K, hK, hO⟩ := hO
    refine fV_gh hK ?_
    refine fV_st (st' := [.int (i32 (vPal σ ))]) (by rw [hv]; rfl) ?_
    refine fV_iret G dL_act_205 ?_
    have eV : aV σ y = vPal σ  := by unfold aV; rw [if_neg (by omega), if_neg (by omega), if_neg (by omega), if_neg (by omega), if_neg (by omega), if_neg (by omega), if_neg (by omega), if_pos (by omega)]
    have eT : aT σ y = tPal σ  := by unfold aT; rw [if_neg (by omega), if_neg (by omega), if_neg (by omega), if_neg (by omega), if_neg (by omega), if_neg (by omega), if_neg (by omega), if_pos (by omega)]
    exact ⟨by rw [eV], by rw [eV, eT]; exact hO, fun _ => hoo⟩
  refine fV_tableOut (tgt := 206) G dL_act_8 (by omega) (by omega) (by decide) ?_
  refine fV_aload_n (pc' := 207) G 1 dL_act_206 rfl rfl rfl ?_
  refine fV_iload_n (pc' := 208) G 0 dL_act_207 rfl rfl rfl ?_
  refine fV_iconst (pc' := 209) G dL_act_208 rfl ?_
  have hl209 := klo (sr y 4) 5 (by decide)
  refine fV_callSf (st' := [.int (i32 (lo (sr y 4) 5)), .ref (Γ.1 0)]) (n := 2) (As := [.int (i32 (sr y 4)), .int (i32 5)]) (rest := [.ref (Γ.1 0)]) (pc' := 212) G (mL_low l Γ hN I P (sr y 4) 5 (by omega)) kcL_act_28 rfl rfl (Nat.le_of_ble_eq_true rfl) (Nat.zero_le _) (Nat.zero_le _) dL_act_209 rfl rfl ?_
  refine fV_iconst (pc' := 213) G dL_act_212 rfl ?_
  refine fV_iload_n (pc' := 214) G 2 dL_act_213 rfl rfl rfl ?_
  refine fV_bipush (n := 7) (pc' := 216) G dL_act_214 rfl rfl ?_
  refine fV_ishrr (t := sr y 7) (pc' := 217) G rfl dL_act_216 rfl ?_
  refine fV_iconst (pc' := 218) G dL_act_217 rfl ?_
  have hl218 := klo (sr y 7) 3 (by decide)
  refine fV_callSf (st' := [.int (i32 (lo (sr y 7) 3)), .int (i32 2), .int (i32 (lo (sr y 4) 5)), .ref (Γ.1 0)]) (n := 2) (As := [.int (i32 (sr y 7)), .int (i32 3)]) (rest := [.int (i32 2), .int (i32 (lo (sr y 4) 5)), .ref (Γ.1 0)]) (pc' := 221) G (mL_low l Γ hN I P (sr y 7) 3 (by omega)) kcL_act_28 rfl rfl (Nat.le_of_ble_eq_true rfl) (Nat.zero_le _) (Nat.zero_le _) dL_act_218 rfl rfl ?_
  refine fV_iadd (pc' := 222) G dL_act_221 rfl ?_
  refine fV_bipush (n := 8) (pc' := 224) G dL_act_222 rfl rfl ?_
  refine fV_iload_n (pc' := 225) G 2 dL_act_224 rfl rfl rfl ?_
  refine fV_bipush (n := 6) (pc' := 227) G dL_act_225 rfl rfl ?_
  refine fV_ishrr (t := sr y 6) (pc' := 228) G rfl dL_act_227 rfl ?_
  refine fV_bipush (n := 20) (pc' := 230) G dL_act_228 rfl rfl ?_
  have hl230 := klo (sr y 6) 20 (by decide)
  refine fV_callSf (st' := [.int (i32 (lo (sr y 6) 20)), .int (i32 8), .int (i32 (2 + (lo (sr y 7) 3))), .int (i32 (lo (sr y 4) 5)), .ref (Γ.1 0)]) (n := 2) (As := [.int (i32 (sr y 6)), .int (i32 20)]) (rest := [.int (i32 8), .int (i32 (2 + (lo (sr y 7) 3))), .int (i32 (lo (sr y 4) 5)), .ref (Γ.1 0)]) (pc' := 233) G (mL_low l Γ hN I P (sr y 6) 20 (by omega)) kcL_act_28 rfl rfl (Nat.le_of_ble_eq_true rfl) (Nat.zero_le _) (Nat.zero_le _) dL_act_230 rfl rfl ?_
  refine fV_iadd (pc' := 234) G dL_act_233 rfl ?_
  refine fV_callV (n := 3) (k := 0) (K := 3) (As := [.int (i32 (lo (sr y 4) 5)), .int (i32 (2 + (lo (sr y 7) 3))), .int (i32 (8 + (lo (sr y 6) 20)))]) (rest := []) (pc' := 237) G (mX3_put l Γ hN I P (Sim_all S.1) (lo (sr y 4) 5) (2 + (lo (sr y 7) 3)) (8 + (lo (sr y 6) 20)) (by omega) (by omega) (by omega)) kcL_act_60 (by omega) rfl rfl rfl rfl (Nat.le_of_ble_eq_true rfl) (Nat.zero_le _) (Nat.zero_le _) dL_act_234 rfl (fun v11 I12 P13 h14 => ?_)
  obtain ⟨hv, hO⟩ := g_put S hκ h14
  obtain ⟨K, hK, hO⟩ := hO
  refine fV_gh hK ?_
  refine fV_st (st' := [.int (i32 (vPut σ (lo (sr y 4) 5) (2 + (lo (sr y 7) 3)) (8 + (lo (sr y 6) 20))))]) (by rw [hv]; rfl) ?_
  refine fV_iret G dL_act_237 ?_
  have eV : aV σ y = vPut σ (lo (sr y 4) 5) (2 + (lo (sr y 7) 3)) (8 + (lo (sr y 6) 20)) := by unfold aV; rw [if_neg (by omega), if_neg (by omega), if_neg (by omega), if_neg (by omega), if_neg (by omega), if_neg (by omega), if_neg (by omega), if_neg (by omega)]
  have eT : aT σ y = tPut σ (lo (sr y 4) 5) (2 + (lo (sr y 7) 3)) (8 + (lo (sr y 6) 20)) := by unfold aT; rw [if_neg (by omega), if_neg (by omega), if_neg (by omega), if_neg (by omega), if_neg (by omega), if_neg (by omega), if_neg (by omega), if_neg (by omega)]
  exact ⟨by rw [eV], by rw [eV, eT]; exact hO, fun z => by omega⟩
