/-! CONTRACTS 4: the reference's reads (rows laid by wip/whole/gen/con4.py) -/
set_option maxHeartbeats 4000000 in
set_option maxRecDepth 100000 in
theorem mX4_meetsAt (l : Launch) (Γ : fG) {N : Nat} (hN : 220 ≤ N) (I : fM) (P : fN) (hm : mSv I) (w : Int) (hw : 0 ≤ w ∧ w < 12) (hr : mWv (mR I w)) (w2 : Int) (hw2 : 0 ≤ w2 ∧ w2 < 12) (hr2_ : mWv (mR I w2)) (f : Int) (hf : 0 ≤ f ∧ f ≤ 4500) : fMet l yX4_meetsAt wsX4_meetsAt rmX4_meetsAt Γ N [.ref (Γ.1 214), .int (i32 w), .int (i32 w2), .int (i32 f)] I P (fE (some (.int (i32 (fB (sMAB (I 215 2) (I 215 1) (fun i => I 215 (3 + i)) (mR I w) (mR I w2) f))))) I P) := by
  refine fMet_of (own := RX4) (cc := cX4_meetsAt) (maxL := 6) (ret := (some .boolean)) rfl (by decide +kernel) rfl (Nat.le_of_ble_eq_true rfl) ?_
  intro p e s m args below meth c G
  obtain ⟨hm1, hm2, hm3, hm4⟩ := id hm
  obtain ⟨hr1, hr2, hr3, hr4, hr5, hr6, hr7, hr8⟩ := id hr
  dsimp only [mR] at hr1 hr2 hr3 hr4 hr5 hr6 hr7 hr8
  obtain ⟨hq1, hq2, hq3, hq4, hq5, hq6, hq7, hq8⟩ := id hr2_
  dsimp only [mR] at hq1 hq2 hq3 hq4 hq5 hq6 hq7 hq8
  have hrba := sRowM_b hm3 hr (f := f) (by omega)
  have hcla := sColM_b hm3 hr (f := f) (by omega)
  have hrbb := sRowM_b hm3 hr2_ (f := f) (by omega)
  have hclb := sColM_b hm3 hr2_ (f := f) (by omega)
  refine fV_lv (lv' := [(0, .ref (Γ.1 214)), (1, .int (i32 w)), (2, .int (i32 w2)), (3, .int (i32 f))]) [0, 1, 2, 3] rfl ?_
  refine fV_aload_n (pc' := 1) G 0 dX4_meetsAt_0 rfl rfl rfl ?_
  refine fV_iload_n (pc' := 2) G 1 dX4_meetsAt_1 rfl rfl rfl ?_
  refine fV_iload_n (pc' := 3) G 3 dX4_meetsAt_2 rfl rfl rfl ?_
  refine fV_callVf (st' := [.int (i32 (fB (sOnB (I 215 2) (I 215 1) (fun i => I 215 (3 + i)) (mR I w) f)))]) (n := 2) (k := 214) (K := 4) (As := [.int (i32 w), .int (i32 f)]) (rest := []) (pc' := 6) G (mX4_isOn l Γ hN I P hm w (by omega) hr f (by omega)) kcX4_meetsAt_64 (by omega) rfl rfl rfl rfl (Nat.le_of_ble_eq_true rfl) (Nat.zero_le _) (Nat.zero_le _) dX4_meetsAt_3 rfl rfl ?_
  refine fV_ifeq_b (tgt := 33) (pc' := 9) G dX4_meetsAt_6 (by decide) rfl (fun c1 => ?_) (fun c1 => ?_)
  · refine fV_iconst (pc' := 34) G dX4_meetsAt_33 rfl ?_
    refine fV_zret (b := false) G dX4_meetsAt_34 ?_
    exact fE_b (by unfold sMAB; symm; first | exact @decide_eq_true _ (Classical.propDecidable _) ⟨⟨by assumption, by assumption, by omega⟩, by dsimp only [mR]; omega⟩ | (refine @decide_eq_false _ (Classical.propDecidable _) ?_; rintro ⟨⟨z1, z2, z3⟩, z4⟩; first | (simp_all; done) | (dsimp only [mR] at z4; omega)))
  · refine fV_aload_n (pc' := 10) G 0 dX4_meetsAt_9 rfl rfl rfl ?_
    refine fV_iload_n (pc' := 11) G 2 dX4_meetsAt_10 rfl rfl rfl ?_
    refine fV_iload_n (pc' := 12) G 3 dX4_meetsAt_11 rfl rfl rfl ?_
    refine fV_callVf (st' := [.int (i32 (fB (sOnB (I 215 2) (I 215 1) (fun i => I 215 (3 + i)) (mR I w2) f)))]) (n := 2) (k := 214) (K := 4) (As := [.int (i32 w2), .int (i32 f)]) (rest := []) (pc' := 15) G (mX4_isOn l Γ hN I P hm w2 (by omega) hr2_ f (by omega)) kcX4_meetsAt_64 (by omega) rfl rfl rfl rfl (Nat.le_of_ble_eq_true rfl) (Nat.zero_le _) (Nat.zero_le _) dX4_meetsAt_12 rfl rfl ?_
    refine fV_ifeq_b (tgt := 33) (pc' := 18) G dX4_meetsAt_15 (by decide) rfl (fun c2 => ?_) (fun c2 => ?_)
    · refine fV_iconst (pc' := 34) G dX4_meetsAt_33 rfl ?_
      refine fV_zret (b := false) G dX4_meetsAt_34 ?_
      exact fE_b (by unfold sMAB; symm; first | exact @decide_eq_true _ (Classical.propDecidable _) ⟨⟨by assumption, by assumption, by omega⟩, by dsimp only [mR]; omega⟩ | (refine @decide_eq_false _ (Classical.propDecidable _) ?_; rintro ⟨⟨z1, z2, z3⟩, z4⟩; first | (simp_all; done) | (dsimp only [mR] at z4; omega)))
    · refine fV_aload_n (pc' := 19) G 0 dX4_meetsAt_18 rfl rfl rfl ?_
      refine fV_iload_n (pc' := 20) G 1 dX4_meetsAt_19 rfl rfl rfl ?_
      refine fV_iload_n (pc' := 21) G 3 dX4_meetsAt_20 rfl rfl rfl ?_
      refine fV_callVf (st' := [.int (i32 (sRowM (I 215 2) (mR I w) f))]) (n := 2) (k := 214) (K := 4) (As := [.int (i32 w), .int (i32 f)]) (rest := []) (pc' := 24) G (mX4_rowAt l Γ hN I P hm w (by omega) hr f (by omega)) kcX4_meetsAt_59 (by omega) rfl rfl rfl rfl (Nat.le_of_ble_eq_true rfl) (Nat.zero_le _) (Nat.zero_le _) dX4_meetsAt_21 rfl rfl ?_
      refine fV_aload_n (pc' := 25) G 0 dX4_meetsAt_24 rfl rfl rfl ?_
      refine fV_iload_n (pc' := 26) G 2 dX4_meetsAt_25 rfl rfl rfl ?_
      refine fV_iload_n (pc' := 27) G 3 dX4_meetsAt_26 rfl rfl rfl ?_
      refine fV_callVf (st' := [.int (i32 (sRowM (I 215 2) (mR I w2) f)), .int (i32 (sRowM (I 215 2) (mR I w) f))]) (n := 2) (k := 214) (K := 4) (As := [.int (i32 w2), .int (i32 f)]) (rest := [.int (i32 (sRowM (I 215 2) (mR I w) f))]) (pc' := 30) G (mX4_rowAt l Γ hN I P hm w2 (by omega) hr2_ f (by omega)) kcX4_meetsAt_59 (by omega) rfl rfl rfl rfl (Nat.le_of_ble_eq_true rfl) (Nat.zero_le _) (Nat.zero_le _) dX4_meetsAt_27 rfl rfl ?_
      refine fV_icmp_eq (tgt := 35) (pc' := 33) G dX4_meetsAt_30 (by decide) rfl (by omega) (by omega) (fun c3 => ?_) (fun c3 => ?_)
      · refine fV_aload_n (pc' := 36) G 0 dX4_meetsAt_35 rfl rfl rfl ?_
        refine fV_iload_n (pc' := 37) G 1 dX4_meetsAt_36 rfl rfl rfl ?_
        refine fV_iload_n (pc' := 38) G 3 dX4_meetsAt_37 rfl rfl rfl ?_
        refine fV_callVf (st' := [.int (i32 (sColM (I 215 2) (mR I w) f))]) (n := 2) (k := 214) (K := 4) (As := [.int (i32 w), .int (i32 f)]) (rest := []) (pc' := 41) G (mX4_columnAt l Γ hN I P hm w (by omega) hr f (by omega)) kcX4_meetsAt_56 (by omega) rfl rfl rfl rfl (Nat.le_of_ble_eq_true rfl) (Nat.zero_le _) (Nat.zero_le _) dX4_meetsAt_38 rfl rfl ?_
        refine fV_aload_n (pc' := 42) G 0 dX4_meetsAt_41 rfl rfl rfl ?_
        refine fV_iload_n (pc' := 43) G 2 dX4_meetsAt_42 rfl rfl rfl ?_
        refine fV_iload_n (pc' := 44) G 3 dX4_meetsAt_43 rfl rfl rfl ?_
        refine fV_callVf (st' := [.int (i32 (sColM (I 215 2) (mR I w2) f)), .int (i32 (sColM (I 215 2) (mR I w) f))]) (n := 2) (k := 214) (K := 4) (As := [.int (i32 w2), .int (i32 f)]) (rest := [.int (i32 (sColM (I 215 2) (mR I w) f))]) (pc' := 47) G (mX4_columnAt l Γ hN I P hm w2 (by omega) hr2_ f (by omega)) kcX4_meetsAt_56 (by omega) rfl rfl rfl rfl (Nat.le_of_ble_eq_true rfl) (Nat.zero_le _) (Nat.zero_le _) dX4_meetsAt_44 rfl rfl ?_
        refine fV_callSf (st' := [.int (i32 (max (sColM (I 215 2) (mR I w) f) (sColM (I 215 2) (mR I w2) f)))]) (n := 2) (As := [.int (i32 (sColM (I 215 2) (mR I w) f)), .int (i32 (sColM (I 215 2) (mR I w2) f))]) (rest := []) (pc' := 50) G (mX4_more l Γ hN I P (sColM (I 215 2) (mR I w) f) (sColM (I 215 2) (mR I w2) f) (by omega) (by omega)) kcX4_meetsAt_68 rfl rfl (Nat.le_of_ble_eq_true rfl) (Nat.zero_le _) (Nat.zero_le _) dX4_meetsAt_47 rfl rfl ?_
        refine fV_iconst (pc' := 51) G dX4_meetsAt_50 rfl ?_
        refine fV_callSf (st' := [.int (i32 (max (max (sColM (I 215 2) (mR I w) f) (sColM (I 215 2) (mR I w2) f)) 0))]) (n := 2) (As := [.int (i32 (max (sColM (I 215 2) (mR I w) f) (sColM (I 215 2) (mR I w2) f))), .int (i32 0)]) (rest := []) (pc' := 54) G (mX4_more l Γ hN I P (max (sColM (I 215 2) (mR I w) f) (sColM (I 215 2) (mR I w2) f)) 0 (by omega) (by omega)) kcX4_meetsAt_68 rfl rfl (Nat.le_of_ble_eq_true rfl) (Nat.zero_le _) (Nat.zero_le _) dX4_meetsAt_51 rfl rfl ?_
        refine fV_istore (lv' := [(4, .int (i32 (max (max (sColM (I 215 2) (mR I w) f) (sColM (I 215 2) (mR I w2) f)) 0))), (0, .ref (Γ.1 214)), (1, .int (i32 w)), (2, .int (i32 w2)), (3, .int (i32 f))]) (pc' := 56) G dX4_meetsAt_54 (by decide) rfl rfl ?_
        refine fV_aload_n (pc' := 57) G 1 dX4_meetsAt_56 rfl rfl rfl ?_
        refine fV_iload_n (pc' := 58) G 2 dX4_meetsAt_57 rfl rfl rfl ?_
        refine fV_iload_n (pc' := 59) G 4 dX4_meetsAt_58 rfl rfl rfl ?_
        refine fV_callVf (st' := [.int (i32 (sColM (I 215 2) (mR I w) f))]) (n := 2) (k := 214) (K := 4) (As := [.int (i32 w), .int (i32 f)]) (rest := []) (pc' := 62) G (mX4_columnAt l Γ hN I P hm w (by omega) hr f (by omega)) kcX4_meetsAt_56 (by omega) rfl rfl rfl rfl (Nat.le_of_ble_eq_true rfl) (Nat.zero_le _) (Nat.zero_le _) dX4_meetsAt_59 rfl rfl ?_
        refine fV_aload_n (pc' := 63) G 1 dX4_meetsAt_62 rfl rfl rfl ?_
        refine fV_iload_n (pc' := 64) G 2 dX4_meetsAt_63 rfl rfl rfl ?_
        refine fV_bipush (n := 6) (pc' := 66) G dX4_meetsAt_64 rfl rfl ?_
        refine fV_callVf (st' := [.int (i32 (I 215 (13 + 19 * w + 6))), .int (i32 (sColM (I 215 2) (mR I w) f))]) (n := 2) (k := 214) (K := 4) (As := [.int (i32 w), .int (i32 6)]) (rest := [.int (i32 (sColM (I 215 2) (mR I w) f))]) (pc' := 69) G (mX4_of l Γ hN I P w (by omega) 6 (by omega)) kcX4_meetsAt_37 (by omega) rfl rfl rfl rfl (Nat.le_of_ble_eq_true rfl) (Nat.zero_le _) (Nat.zero_le _) dX4_meetsAt_66 rfl rfl ?_
        refine fV_iadd (pc' := 70) G dX4_meetsAt_69 rfl ?_
        refine fV_aload_n (pc' := 71) G 1 dX4_meetsAt_70 rfl rfl rfl ?_
        refine fV_iload_n (pc' := 72) G 3 dX4_meetsAt_71 rfl rfl rfl ?_
        refine fV_iload_n (pc' := 73) G 4 dX4_meetsAt_72 rfl rfl rfl ?_
        refine fV_callVf (st' := [.int (i32 (sColM (I 215 2) (mR I w2) f)), .int (i32 ((sColM (I 215 2) (mR I w) f) + (I 215 (13 + 19 * w + 6))))]) (n := 2) (k := 214) (K := 4) (As := [.int (i32 w2), .int (i32 f)]) (rest := [.int (i32 ((sColM (I 215 2) (mR I w) f) + (I 215 (13 + 19 * w + 6))))]) (pc' := 76) G (mX4_columnAt l Γ hN I P hm w2 (by omega) hr2_ f (by omega)) kcX4_meetsAt_56 (by omega) rfl rfl rfl rfl (Nat.le_of_ble_eq_true rfl) (Nat.zero_le _) (Nat.zero_le _) dX4_meetsAt_73 rfl rfl ?_
        refine fV_aload_n (pc' := 77) G 1 dX4_meetsAt_76 rfl rfl rfl ?_
        refine fV_iload_n (pc' := 78) G 3 dX4_meetsAt_77 rfl rfl rfl ?_
        refine fV_bipush (n := 6) (pc' := 80) G dX4_meetsAt_78 rfl rfl ?_
        refine fV_callVf (st' := [.int (i32 (I 215 (13 + 19 * w2 + 6))), .int (i32 (sColM (I 215 2) (mR I w2) f)), .int (i32 ((sColM (I 215 2) (mR I w) f) + (I 215 (13 + 19 * w + 6))))]) (n := 2) (k := 214) (K := 4) (As := [.int (i32 w2), .int (i32 6)]) (rest := [.int (i32 (sColM (I 215 2) (mR I w2) f)), .int (i32 ((sColM (I 215 2) (mR I w) f) + (I 215 (13 + 19 * w + 6))))]) (pc' := 83) G (mX4_of l Γ hN I P w2 (by omega) 6 (by omega)) kcX4_meetsAt_37 (by omega) rfl rfl rfl rfl (Nat.le_of_ble_eq_true rfl) (Nat.zero_le _) (Nat.zero_le _) dX4_meetsAt_80 rfl rfl ?_
        refine fV_iadd (pc' := 84) G dX4_meetsAt_83 rfl ?_
        refine fV_callSf (st' := [.int (i32 (min ((sColM (I 215 2) (mR I w) f) + (I 215 (13 + 19 * w + 6))) ((sColM (I 215 2) (mR I w2) f) + (I 215 (13 + 19 * w2 + 6)))))]) (n := 2) (As := [.int (i32 ((sColM (I 215 2) (mR I w) f) + (I 215 (13 + 19 * w + 6)))), .int (i32 ((sColM (I 215 2) (mR I w2) f) + (I 215 (13 + 19 * w2 + 6))))]) (rest := []) (pc' := 87) G (mX4_less l Γ hN I P ((sColM (I 215 2) (mR I w) f) + (I 215 (13 + 19 * w + 6))) ((sColM (I 215 2) (mR I w2) f) + (I 215 (13 + 19 * w2 + 6))) (by omega) (by omega)) kcX4_meetsAt_71 rfl rfl (Nat.le_of_ble_eq_true rfl) (Nat.zero_le _) (Nat.zero_le _) dX4_meetsAt_84 rfl rfl ?_
        refine fV_bipush (n := 40) (pc' := 89) G dX4_meetsAt_87 rfl rfl ?_
        refine fV_callSf (st' := [.int (i32 (min (min ((sColM (I 215 2) (mR I w) f) + (I 215 (13 + 19 * w + 6))) ((sColM (I 215 2) (mR I w2) f) + (I 215 (13 + 19 * w2 + 6)))) 40))]) (n := 2) (As := [.int (i32 (min ((sColM (I 215 2) (mR I w) f) + (I 215 (13 + 19 * w + 6))) ((sColM (I 215 2) (mR I w2) f) + (I 215 (13 + 19 * w2 + 6))))), .int (i32 40)]) (rest := []) (pc' := 92) G (mX4_less l Γ hN I P (min ((sColM (I 215 2) (mR I w) f) + (I 215 (13 + 19 * w + 6))) ((sColM (I 215 2) (mR I w2) f) + (I 215 (13 + 19 * w2 + 6)))) 40 (by omega) (by omega)) kcX4_meetsAt_71 rfl rfl (Nat.le_of_ble_eq_true rfl) (Nat.zero_le _) (Nat.zero_le _) dX4_meetsAt_89 rfl rfl ?_
        refine fV_istore (lv' := [(5, .int (i32 (min (min ((sColM (I 215 2) (mR I w) f) + (I 215 (13 + 19 * w + 6))) ((sColM (I 215 2) (mR I w2) f) + (I 215 (13 + 19 * w2 + 6)))) 40))), (4, .int (i32 (max (max (sColM (I 215 2) (mR I w) f) (sColM (I 215 2) (mR I w2) f)) 0))), (0, .ref (Γ.1 214)), (1, .int (i32 w)), (2, .int (i32 w2)), (3, .int (i32 f))]) (pc' := 94) G dX4_meetsAt_92 (by decide) rfl rfl ?_
        refine fV_iload (pc' := 96) G 1 dX4_meetsAt_94 rfl rfl ?_
        refine fV_iload (pc' := 98) G 0 dX4_meetsAt_96 rfl rfl ?_
        refine fV_icmp_ge (tgt := 105) (pc' := 101) G dX4_meetsAt_98 (by decide) rfl (by omega) (by omega) (fun c4 => ?_) (fun c4 => ?_)
        · refine fV_iconst (pc' := 106) G dX4_meetsAt_105 rfl ?_
          refine fV_zret (b := false) G dX4_meetsAt_106 ?_
          exact fE_b (by unfold sMAB; symm; first | exact @decide_eq_true _ (Classical.propDecidable _) ⟨⟨by assumption, by assumption, by omega⟩, by dsimp only [mR]; omega⟩ | (refine @decide_eq_false _ (Classical.propDecidable _) ?_; rintro ⟨⟨z1, z2, z3⟩, z4⟩; first | (simp_all; done) | (dsimp only [mR] at z4; omega)))
        · refine fV_iconst (pc' := 102) G dX4_meetsAt_101 rfl ?_
          refine fV_goto (tgt := 106) G dX4_meetsAt_102 (by decide) ?_
          refine fV_zret (b := true) G dX4_meetsAt_106 ?_
          exact fE_b (by unfold sMAB; symm; first | exact @decide_eq_true _ (Classical.propDecidable _) ⟨⟨by assumption, by assumption, by omega⟩, by dsimp only [mR]; omega⟩ | (refine @decide_eq_false _ (Classical.propDecidable _) ?_; rintro ⟨⟨z1, z2, z3⟩, z4⟩; first | (simp_all; done) | (dsimp only [mR] at z4; omega)))
      · refine fV_iconst (pc' := 34) G dX4_meetsAt_33 rfl ?_
        refine fV_zret (b := false) G dX4_meetsAt_34 ?_
        exact fE_b (by unfold sMAB; symm; first | exact @decide_eq_true _ (Classical.propDecidable _) ⟨⟨by assumption, by assumption, by omega⟩, by dsimp only [mR]; omega⟩ | (refine @decide_eq_false _ (Classical.propDecidable _) ?_; rintro ⟨⟨z1, z2, z3⟩, z4⟩; first | (simp_all; done) | (dsimp only [mR] at z4; omega)))
set_option maxHeartbeats 4000000 in
set_option maxRecDepth 100000 in
theorem mX4_meetingOf (l : Launch) (Γ : fG) {N : Nat} (hN : 220 ≤ N) (I : fM) (P : fN) (hm : mSv I) (w : Int) (hw : 0 ≤ w ∧ w < 12) (hr : mWv (mR I w)) (w2 : Int) (hw2 : 0 ≤ w2 ∧ w2 < 12) (hr2_ : mWv (mR I w2)) : fMet l yX4_meetingOf wsX4_meetingOf rmX4_meetingOf Γ N [.ref (Γ.1 214), .int (i32 w), .int (i32 w2)] I P (fE (some (.int (i32 (sMetM (I 215 2) (I 215 1) (fun i => I 215 (3 + i)) (mR I w) (mR I w2))))) I P) := by
  refine fMet_of (own := RX4) (cc := cX4_meetingOf) (maxL := 4) (ret := (some .int)) rfl (by decide +kernel) rfl (Nat.le_of_ble_eq_true rfl) ?_
  intro p e s m args below meth c G
  obtain ⟨hm1, hm2, hm3, hm4⟩ := id hm
  obtain ⟨hr1, hr2, hr3, hr4, hr5, hr6, hr7, hr8⟩ := id hr
  dsimp only [mR] at hr1 hr2 hr3 hr4 hr5 hr6 hr7 hr8
  obtain ⟨hq1, hq2, hq3, hq4, hq5, hq6, hq7, hq8⟩ := id hr2_
  dsimp only [mR] at hq1 hq2 hq3 hq4 hq5 hq6 hq7 hq8
  have hw4 : max (mR I w 0) (mR I w2 0) ≤ 4001 := by dsimp only [mR]; omega
  refine fV_lv (lv' := [(0, .ref (Γ.1 214)), (1, .int (i32 w)), (2, .int (i32 w2))]) [0, 1, 2] rfl ?_
  refine fV_aload_n (pc' := 1) G 0 dX4_meetingOf_0 rfl rfl rfl ?_
  refine fV_iload_n (pc' := 2) G 1 dX4_meetingOf_1 rfl rfl rfl ?_
  refine fV_iconst (pc' := 3) G dX4_meetingOf_2 rfl ?_
  refine fV_callVf (st' := [.int (i32 (I 215 (13 + 19 * w + 0)))]) (n := 2) (k := 214) (K := 4) (As := [.int (i32 w), .int (i32 0)]) (rest := []) (pc' := 6) G (mX4_of l Γ hN I P w (by omega) 0 (by omega)) kcX4_meetingOf_37 (by omega) rfl rfl rfl rfl (Nat.le_of_ble_eq_true rfl) (Nat.zero_le _) (Nat.zero_le _) dX4_meetingOf_3 rfl rfl ?_
  refine fV_aload_n (pc' := 7) G 0 dX4_meetingOf_6 rfl rfl rfl ?_
  refine fV_iload_n (pc' := 8) G 2 dX4_meetingOf_7 rfl rfl rfl ?_
  refine fV_iconst (pc' := 9) G dX4_meetingOf_8 rfl ?_
  refine fV_callVf (st' := [.int (i32 (I 215 (13 + 19 * w2 + 0))), .int (i32 (I 215 (13 + 19 * w + 0)))]) (n := 2) (k := 214) (K := 4) (As := [.int (i32 w2), .int (i32 0)]) (rest := [.int (i32 (I 215 (13 + 19 * w + 0)))]) (pc' := 12) G (mX4_of l Γ hN I P w2 (by omega) 0 (by omega)) kcX4_meetingOf_37 (by omega) rfl rfl rfl rfl (Nat.le_of_ble_eq_true rfl) (Nat.zero_le _) (Nat.zero_le _) dX4_meetingOf_9 rfl rfl ?_
  refine fV_callSf (st' := [.int (i32 (max (I 215 (13 + 19 * w + 0)) (I 215 (13 + 19 * w2 + 0))))]) (n := 2) (As := [.int (i32 (I 215 (13 + 19 * w + 0))), .int (i32 (I 215 (13 + 19 * w2 + 0)))]) (rest := []) (pc' := 15) G (mX4_more l Γ hN I P (I 215 (13 + 19 * w + 0)) (I 215 (13 + 19 * w2 + 0)) (by omega) (by omega)) kcX4_meetingOf_68 rfl rfl (Nat.le_of_ble_eq_true rfl) (Nat.zero_le _) (Nat.zero_le _) dX4_meetingOf_12 rfl rfl ?_
  refine fV_istore_n (lv' := [(3, .int (i32 (max (I 215 (13 + 19 * w + 0)) (I 215 (13 + 19 * w2 + 0))))), (0, .ref (Γ.1 214)), (1, .int (i32 w)), (2, .int (i32 w2))]) (pc' := 16) G dX4_meetingOf_15 rfl (by decide) rfl rfl ?_
  have lp : ∀ (z : Nat) (f : Int), max (I 215 (13 + 19 * w + 0)) (I 215 (13 + 19 * w2 + 0)) ≤ f ∧ f ≤ 4001 → f ≤ sMetF (I 215 2) (I 215 1) (fun i => I 215 (3 + i)) (mR I w) (mR I w2) → ((4001 - f).toNat) = z → fV p l e rmX4_meetingOf s m args below meth c (MQ below (fQ Γ N (fE (some (.int (i32 (sMetM (I 215 2) (I 215 1) (fun i => I 215 (3 + i)) (mR I w) (mR I w2))))) I P)) args s 0 0 (fA Γ N)) (fA Γ N) Γ N 4 0 0 I P 16 [(0, .ref (Γ.1 214)), (1, .int (i32 w)), (2, .int (i32 w2)), (3, .int (i32 f))] [] := by
    intro z
    induction z using Nat.strongRecOn with
    | _ z ih_lp =>
      intro f hf hR hz_lp
      refine fV_aload_n (pc' := 17) G 0 dX4_meetingOf_16 rfl rfl rfl ?_
      refine fV_iload_n (pc' := 18) G 1 dX4_meetingOf_17 rfl rfl rfl ?_
      refine fV_iload_n (pc' := 19) G 3 dX4_meetingOf_18 rfl rfl rfl ?_
      refine fV_callVf (st' := [.int (i32 (fB (sOnB (I 215 2) (I 215 1) (fun i => I 215 (3 + i)) (mR I w) f)))]) (n := 2) (k := 214) (K := 4) (As := [.int (i32 w), .int (i32 f)]) (rest := []) (pc' := 22) G (mX4_isOn l Γ hN I P hm w (by omega) hr f (by omega)) kcX4_meetingOf_64 (by omega) rfl rfl rfl rfl (Nat.le_of_ble_eq_true rfl) (Nat.zero_le _) (Nat.zero_le _) dX4_meetingOf_19 rfl rfl ?_
      refine fV_ifeq_b (tgt := 52) (pc' := 25) G dX4_meetingOf_22 (by decide) rfl (fun c101 => ?_) (fun c101 => ?_)
      · have hoff := c101
        refine fV_bipush (n := -19) (pc' := 54) G dX4_meetingOf_52 rfl rfl ?_
        refine fV_iret G dX4_meetingOf_54 ?_
        exact fE_i (by first | exact (sMet_hit hw4 (by dsimp only [mR]; omega) hR hon hon2 hmt).symm | exact (sMet_no hw4 (by dsimp only [mR]; omega) hR (Or.inl hoff)).symm | exact (sMet_no hw4 (by dsimp only [mR]; omega) hR (Or.inr hoff)).symm)
      · have hon := c101
        refine fV_aload_n (pc' := 26) G 0 dX4_meetingOf_25 rfl rfl rfl ?_
        refine fV_iload_n (pc' := 27) G 2 dX4_meetingOf_26 rfl rfl rfl ?_
        refine fV_iload_n (pc' := 28) G 3 dX4_meetingOf_27 rfl rfl rfl ?_
        refine fV_callVf (st' := [.int (i32 (fB (sOnB (I 215 2) (I 215 1) (fun i => I 215 (3 + i)) (mR I w2) f)))]) (n := 2) (k := 214) (K := 4) (As := [.int (i32 w2), .int (i32 f)]) (rest := []) (pc' := 31) G (mX4_isOn l Γ hN I P hm w2 (by omega) hr2_ f (by omega)) kcX4_meetingOf_64 (by omega) rfl rfl rfl rfl (Nat.le_of_ble_eq_true rfl) (Nat.zero_le _) (Nat.zero_le _) dX4_meetingOf_28 rfl rfl ?_
        refine fV_ifeq_b (tgt := 52) (pc' := 34) G dX4_meetingOf_31 (by decide) rfl (fun c102 => ?_) (fun c102 => ?_)
        · have hoff := c102
          refine fV_bipush (n := -19) (pc' := 54) G dX4_meetingOf_52 rfl rfl ?_
          refine fV_iret G dX4_meetingOf_54 ?_
          exact fE_i (by first | exact (sMet_hit hw4 (by dsimp only [mR]; omega) hR hon hon2 hmt).symm | exact (sMet_no hw4 (by dsimp only [mR]; omega) hR (Or.inl hoff)).symm | exact (sMet_no hw4 (by dsimp only [mR]; omega) hR (Or.inr hoff)).symm)
        · have hon2 := c102
          refine fV_aload_n (pc' := 35) G 0 dX4_meetingOf_34 rfl rfl rfl ?_
          refine fV_iload_n (pc' := 36) G 1 dX4_meetingOf_35 rfl rfl rfl ?_
          refine fV_iload_n (pc' := 37) G 2 dX4_meetingOf_36 rfl rfl rfl ?_
          refine fV_iload_n (pc' := 38) G 3 dX4_meetingOf_37 rfl rfl rfl ?_
          refine fV_callVf (st' := [.int (i32 (fB (sMAB (I 215 2) (I 215 1) (fun i => I 215 (3 + i)) (mR I w) (mR I w2) f)))]) (n := 3) (k := 214) (K := 4) (As := [.int (i32 w), .int (i32 w2), .int (i32 f)]) (rest := []) (pc' := 41) G (mX4_meetsAt l Γ hN I P hm w (by omega) hr w2 (by omega) hr2_ f (by omega)) kcX4_meetingOf_74 (by omega) rfl rfl rfl rfl (Nat.le_of_ble_eq_true rfl) (Nat.zero_le _) (Nat.zero_le _) dX4_meetingOf_38 rfl rfl ?_
          refine fV_ifeq_b (tgt := 46) (pc' := 44) G dX4_meetingOf_41 (by decide) rfl (fun c103 => ?_) (fun c103 => ?_)
          · have hme := c103
            have hlt := sOnB_lt hm4 hon
            refine fV_iinc (lv' := [(3, .int (i32 (f + 1))), (0, .ref (Γ.1 214)), (1, .int (i32 w)), (2, .int (i32 w2))]) (pc' := 49) G 3 dX4_meetingOf_46 rfl (by decide) rfl rfl ?_
            refine fV_goto (tgt := 16) G dX4_meetingOf_49 (by decide) ?_
            refine fV_lv (lv' := [(0, .ref (Γ.1 214)), (1, .int (i32 w)), (2, .int (i32 w2)), (3, .int (i32 (f + 1)))]) [1, 2, 3, 0] rfl ?_
            exact ih_lp _ (by omega) (f + 1) (by omega) (sMet_step hw4 hR hon hon2 hme hlt) rfl
          · have hmt := c103
            refine fV_iload_n (pc' := 45) G 3 dX4_meetingOf_44 rfl rfl rfl ?_
            refine fV_iret G dX4_meetingOf_45 ?_
            exact fE_i (by first | exact (sMet_hit hw4 (by dsimp only [mR]; omega) hR hon hon2 hmt).symm | exact (sMet_no hw4 (by dsimp only [mR]; omega) hR (Or.inl hoff)).symm | exact (sMet_no hw4 (by dsimp only [mR]; omega) hR (Or.inr hoff)).symm)
  refine fV_lv (lv' := [(0, .ref (Γ.1 214)), (1, .int (i32 w)), (2, .int (i32 w2)), (3, .int (i32 (max (I 215 (13 + 19 * w + 0)) (I 215 (13 + 19 * w2 + 0)))))]) [1, 2, 3, 0] rfl ?_
  exact lp _ (max (I 215 (13 + 19 * w + 0)) (I 215 (13 + 19 * w2 + 0))) (by omega) ((sF_is hw4).1.1) rfl
set_option maxHeartbeats 4000000 in
set_option maxRecDepth 100000 in
theorem mX4_putMany (l : Launch) (Γ : fG) {N : Nat} (hN : 220 ≤ N) (I : fM) (P : fN) (hm : mSv I) (hwm : ∀ w : Int, 0 ≤ w → w < I 215 0 → mWv (mR I w)) : fMet l yX4_putMany wsX4_putMany rmX4_putMany Γ N [.ref (Γ.1 214)] I P (fE (some (.int (i32 (sSum (fun i => if I 215 (13 + 19 * i + 4) ≠ -1 then 1 else 0) (I 215 0))))) I P) := by
  refine fMet_of (own := RX4) (cc := cX4_putMany) (maxL := 3) (ret := (some .int)) rfl (by decide +kernel) rfl (Nat.le_of_ble_eq_true rfl) ?_
  intro p e s m args below meth c G
  obtain ⟨hm1, hm2, hm3, hm4⟩ := id hm
  have hwb : ∀ i : Int, 0 ≤ i → i < I 215 0 → -1 ≤ I 215 (13 + 19 * i + 4) ∧ I 215 (13 + 19 * i + 4) ≤ 7 := fun i h1 h2 => (hwm i h1 h2).2.2.2.2.2.1
  refine fV_lv (lv' := [(0, .ref (Γ.1 214))]) [0] rfl ?_
  refine fV_iconst (pc' := 1) G dX4_putMany_0 rfl ?_
  refine fV_istore_n (lv' := [(1, .int (i32 0)), (0, .ref (Γ.1 214))]) (pc' := 2) G dX4_putMany_1 rfl (by decide) rfl rfl ?_
  refine fV_iconst (pc' := 3) G dX4_putMany_2 rfl ?_
  refine fV_istore_n (lv' := [(2, .int (i32 0)), (1, .int (i32 0)), (0, .ref (Γ.1 214))]) (pc' := 4) G dX4_putMany_3 rfl (by decide) rfl rfl ?_
  have lp : ∀ (z : Nat) (i : Int) (q : Int), 0 ≤ i ∧ i ≤ I 215 0 → q = sSum (fun i => if I 215 (13 + 19 * i + 4) ≠ -1 then 1 else 0) i → ((I 215 0 - i).toNat) = z → fV p l e rmX4_putMany s m args below meth c (MQ below (fQ Γ N (fE (some (.int (i32 (sSum (fun i => if I 215 (13 + 19 * i + 4) ≠ -1 then 1 else 0) (I 215 0))))) I P)) args s 0 0 (fA Γ N)) (fA Γ N) Γ N 3 0 0 I P 4 [(0, .ref (Γ.1 214)), (1, .int (i32 q)), (2, .int (i32 i))] [] := by
    intro z
    induction z using Nat.strongRecOn with
    | _ z ih_lp =>
      intro i q hi hq hz_lp
      refine fV_iload_n (pc' := 5) G 2 dX4_putMany_4 rfl rfl rfl ?_
      refine fV_aload_n (pc' := 6) G 0 dX4_putMany_5 rfl rfl rfl ?_
      refine fV_get (K := 4) (v := .ref (Γ.1 215)) (pc' := 9) G kfX4_putMany_7 (by omega) rfl rfl rfl dX4_putMany_6 rfl ?_
      refine fV_iconst (pc' := 10) G dX4_putMany_9 rfl ?_
      refine fV_iald (K := 8) (n := 241) (pc' := 11) G (by omega) rfl (fun _ _ => rfl) (by decide) (by omega) dX4_putMany_10 rfl ?_
      refine fV_icmp_ge (tgt := 36) (pc' := 14) G dX4_putMany_11 (by decide) rfl (by omega) (by omega) (fun c101 => ?_) (fun c101 => ?_)
      · refine fV_iload_n (pc' := 37) G 1 dX4_putMany_36 rfl rfl rfl ?_
        refine fV_iret G dX4_putMany_37 ?_
        exact fE_i (by rw [hq]; congr 1; omega)
      · refine fV_iload_n (pc' := 15) G 1 dX4_putMany_14 rfl rfl rfl ?_
        refine fV_aload_n (pc' := 16) G 0 dX4_putMany_15 rfl rfl rfl ?_
        refine fV_iload_n (pc' := 17) G 2 dX4_putMany_16 rfl rfl rfl ?_
        refine fV_callVf (st' := [.int (i32 (fB (decide (I 215 (13 + 19 * i + 4) ≠ -1)))), .int (i32 q)]) (n := 1) (k := 214) (K := 4) (As := [.int (i32 i)]) (rest := [.int (i32 q)]) (pc' := 20) G (mX4_isPut l Γ hN I P i (by omega) (hwb _ (by omega) (by omega))) kcX4_putMany_41 (by omega) rfl rfl rfl rfl (Nat.le_of_ble_eq_true rfl) (Nat.zero_le _) (Nat.zero_le _) dX4_putMany_17 rfl rfl ?_
        refine fV_ifeq_b (tgt := 27) (pc' := 23) G dX4_putMany_20 (by decide) rfl (fun c102 => ?_) (fun c102 => ?_)
        · have hpt := c102
          refine fV_iconst (pc' := 28) G dX4_putMany_27 rfl ?_
          refine fV_iadd (pc' := 29) G dX4_putMany_28 rfl ?_
          refine fV_istore_n (lv' := [(1, .int (i32 (q + 0))), (0, .ref (Γ.1 214)), (2, .int (i32 i))]) (pc' := 30) G dX4_putMany_29 rfl (by decide) rfl rfl ?_
          refine fV_iinc (lv' := [(2, .int (i32 (i + 1))), (1, .int (i32 (q + 0))), (0, .ref (Γ.1 214))]) (pc' := 33) G 2 dX4_putMany_30 rfl (by decide) rfl rfl ?_
          refine fV_goto (tgt := 4) G dX4_putMany_33 (by decide) ?_
          refine fV_lv (lv' := [(0, .ref (Γ.1 214)), (1, .int (i32 (q + 0))), (2, .int (i32 (i + 1)))]) [2, 1, 0] rfl ?_
          exact ih_lp _ (by omega) (i + 1) (q + 0) (by omega) (by have e := sSum_s (g := fun i => if I 215 (13 + 19 * i + 4) ≠ -1 then 1 else 0) (n := i) (by omega); rw [e, ← hq]; (try dsimp only); first | (rw [if_pos (of_decide_eq_true hpt)]) | (rw [if_neg (of_decide_eq_false hpt)])) rfl
        · have hpt := c102
          refine fV_iconst (pc' := 24) G dX4_putMany_23 rfl ?_
          refine fV_goto (tgt := 28) G dX4_putMany_24 (by decide) ?_
          refine fV_iadd (pc' := 29) G dX4_putMany_28 rfl ?_
          refine fV_istore_n (lv' := [(1, .int (i32 (q + 1))), (0, .ref (Γ.1 214)), (2, .int (i32 i))]) (pc' := 30) G dX4_putMany_29 rfl (by decide) rfl rfl ?_
          refine fV_iinc (lv' := [(2, .int (i32 (i + 1))), (1, .int (i32 (q + 1))), (0, .ref (Γ.1 214))]) (pc' := 33) G 2 dX4_putMany_30 rfl (by decide) rfl rfl ?_
          refine fV_goto (tgt := 4) G dX4_putMany_33 (by decide) ?_
          refine fV_lv (lv' := [(0, .ref (Γ.1 214)), (1, .int (i32 (q + 1))), (2, .int (i32 (i + 1)))]) [2, 1, 0] rfl ?_
          exact ih_lp _ (by omega) (i + 1) (q + 1) (by omega) (by have e := sSum_s (g := fun i => if I 215 (13 + 19 * i + 4) ≠ -1 then 1 else 0) (n := i) (by omega); rw [e, ← hq]; (try dsimp only); first | (rw [if_pos (of_decide_eq_true hpt)]) | (rw [if_neg (of_decide_eq_false hpt)])) rfl
  refine fV_lv (lv' := [(0, .ref (Γ.1 214)), (1, .int (i32 0)), (2, .int (i32 0))]) [2, 1, 0] rfl ?_
  exact lp _ 0 0 (by omega) (by rw [sSum_0]) rfl
set_option maxHeartbeats 4000000 in
set_option maxRecDepth 100000 in
theorem mX4_meetsAny (l : Launch) (Γ : fG) {N : Nat} (hN : 220 ≤ N) (I : fM) (P : fN) (hm : mSv I) (hwm : ∀ w : Int, 0 ≤ w → w < I 215 0 → mWv (mR I w)) (w : Int) (hw : 0 ≤ w ∧ w < 12) (hwn : w < I 215 0) : fMet l yX4_meetsAny wsX4_meetsAny rmX4_meetsAny Γ N [.ref (Γ.1 214), .int (i32 w)] I P (fE (some (.int (i32 (fB (sMAnyB (fun i => i ≠ w ∧ I 215 (13 + 19 * i + 4) ≠ -1 ∧ sMetM (I 215 2) (I 215 1) (fun i => I 215 (3 + i)) (mR I w) (mR I i) ≠ -19) (I 215 0)))))) I P) := by
  refine fMet_of (own := RX4) (cc := cX4_meetsAny) (maxL := 4) (ret := (some .boolean)) rfl (by decide +kernel) rfl (Nat.le_of_ble_eq_true rfl) ?_
  intro p e s m args below meth c G
  obtain ⟨hm1, hm2, hm3, hm4⟩ := id hm
  have hwb : ∀ i : Int, 0 ≤ i → i < I 215 0 → -1 ≤ I 215 (13 + 19 * i + 4) ∧ I 215 (13 + 19 * i + 4) ≤ 7 := fun i h1 h2 => (hwm i h1 h2).2.2.2.2.2.1
  have hr : mWv (mR I w) := hwm w (by omega) hwn
  obtain ⟨hr1, hr2, hr3, hr4, hr5, hr6, hr7, hr8⟩ := id hr
  dsimp only [mR] at hr1 hr2 hr3 hr4 hr5 hr6 hr7 hr8
  refine fV_lv (lv' := [(0, .ref (Γ.1 214)), (1, .int (i32 w))]) [0, 1] rfl ?_
  refine fV_iconst (pc' := 1) G dX4_meetsAny_0 rfl ?_
  refine fV_istore_n (lv' := [(2, .int (i32 0)), (0, .ref (Γ.1 214)), (1, .int (i32 w))]) (pc' := 2) G dX4_meetsAny_1 rfl (by decide) rfl rfl ?_
  refine fV_iconst (pc' := 3) G dX4_meetsAny_2 rfl ?_
  refine fV_istore_n (lv' := [(3, .int (i32 0)), (2, .int (i32 0)), (0, .ref (Γ.1 214)), (1, .int (i32 w))]) (pc' := 4) G dX4_meetsAny_3 rfl (by decide) rfl rfl ?_
  refine fV_lv (lv' := [(3, .int (i32 0)), (2, .int (i32 (fB false))), (0, .ref (Γ.1 214)), (1, .int (i32 w))]) [0, 1, 2, 3] rfl ?_
  have lp : ∀ (z : Nat) (i : Int) (b : Bool), 0 ≤ i ∧ i ≤ I 215 0 → (b = true → sMAnyB (fun i => i ≠ w ∧ I 215 (13 + 19 * i + 4) ≠ -1 ∧ sMetM (I 215 2) (I 215 1) (fun i => I 215 (3 + i)) (mR I w) (mR I i) ≠ -19) (I 215 0) = true) → (b = false → ∀ j, 0 ≤ j → j < i → ¬ (fun i => i ≠ w ∧ I 215 (13 + 19 * i + 4) ≠ -1 ∧ sMetM (I 215 2) (I 215 1) (fun i => I 215 (3 + i)) (mR I w) (mR I i) ≠ -19) j) → ((I 215 0 - i).toNat) = z → fV p l e rmX4_meetsAny s m args below meth c (MQ below (fQ Γ N (fE (some (.int (i32 (fB (sMAnyB (fun i => i ≠ w ∧ I 215 (13 + 19 * i + 4) ≠ -1 ∧ sMetM (I 215 2) (I 215 1) (fun i => I 215 (3 + i)) (mR I w) (mR I i) ≠ -19) (I 215 0)))))) I P)) args s 0 0 (fA Γ N)) (fA Γ N) Γ N 4 0 0 I P 4 [(0, .ref (Γ.1 214)), (1, .int (i32 w)), (2, .int (i32 (fB b))), (3, .int (i32 i))] [] := by
    intro z
    induction z using Nat.strongRecOn with
    | _ z ih_lp =>
      intro i b hi hb hno hz_lp
      refine fV_iload_n (pc' := 5) G 3 dX4_meetsAny_4 rfl rfl rfl ?_
      refine fV_aload_n (pc' := 6) G 0 dX4_meetsAny_5 rfl rfl rfl ?_
      refine fV_get (K := 4) (v := .ref (Γ.1 215)) (pc' := 9) G kfX4_meetsAny_7 (by omega) rfl rfl rfl dX4_meetsAny_6 rfl ?_
      refine fV_iconst (pc' := 10) G dX4_meetsAny_9 rfl ?_
      refine fV_iald (K := 8) (n := 241) (pc' := 11) G (by omega) rfl (fun _ _ => rfl) (by decide) (by omega) dX4_meetsAny_10 rfl ?_
      refine fV_icmp_ge (tgt := 54) (pc' := 14) G dX4_meetsAny_11 (by decide) rfl (by omega) (by omega) (fun c101 => ?_) (fun c101 => ?_)
      · refine fV_iload_n (pc' := 55) G 2 dX4_meetsAny_54 rfl rfl rfl ?_
        refine fV_zret G dX4_meetsAny_55 ?_
        exact fE_b (by first | (rw [hb hb1, hb1]) | (cases b with | true => exact (hb rfl).symm | false => exact (sMAny_f (fun j z1 z2 => hno rfl j z1 (by omega))).symm))
      · refine fV_iload_n (pc' := 15) G 2 dX4_meetsAny_14 rfl rfl rfl ?_
        refine fV_ifne_b (tgt := 54) (pc' := 18) G dX4_meetsAny_15 (by decide) rfl (fun c102 => ?_) (fun c102 => ?_)
        · have hb1 := c102
          refine fV_iload_n (pc' := 55) G 2 dX4_meetsAny_54 rfl rfl rfl ?_
          refine fV_zret G dX4_meetsAny_55 ?_
          exact fE_b (by first | (rw [hb hb1, hb1]) | (cases b with | true => exact (hb rfl).symm | false => exact (sMAny_f (fun j z1 z2 => hno rfl j z1 (by omega))).symm))
        · have hb0 := c102
          refine fV_iload_n (pc' := 19) G 3 dX4_meetsAny_18 rfl rfl rfl ?_
          refine fV_iload_n (pc' := 20) G 1 dX4_meetsAny_19 rfl rfl rfl ?_
          refine fV_icmp_eq (tgt := 46) (pc' := 23) G dX4_meetsAny_20 (by decide) rfl (by omega) (by omega) (fun c103 => ?_) (fun c103 => ?_)
          · have hnow : ¬ (fun i => i ≠ w ∧ I 215 (13 + 19 * i + 4) ≠ -1 ∧ sMetM (I 215 2) (I 215 1) (fun i => I 215 (3 + i)) (mR I w) (mR I i) ≠ -19) i := fun z => z.1 c103
            refine fV_iconst (pc' := 47) G dX4_meetsAny_46 rfl ?_
            refine fV_istore_n (lv' := [(2, .int (i32 0)), (0, .ref (Γ.1 214)), (1, .int (i32 w)), (3, .int (i32 i))]) (pc' := 48) G dX4_meetsAny_47 rfl (by decide) rfl rfl ?_
            refine fV_iinc (lv' := [(3, .int (i32 (i + 1))), (2, .int (i32 0)), (0, .ref (Γ.1 214)), (1, .int (i32 w))]) (pc' := 51) G 3 dX4_meetsAny_48 rfl (by decide) rfl rfl ?_
            refine fV_goto (tgt := 4) G dX4_meetsAny_51 (by decide) ?_
            have hbt : false = true → sMAnyB (fun i => i ≠ w ∧ I 215 (13 + 19 * i + 4) ≠ -1 ∧ sMetM (I 215 2) (I 215 1) (fun i => I 215 (3 + i)) (mR I w) (mR I i) ≠ -19) (I 215 0) = true := fun z => by cases z
            have hbf : false = false → ∀ j, 0 ≤ j → j < i + 1 → ¬ (fun i => i ≠ w ∧ I 215 (13 + 19 * i + 4) ≠ -1 ∧ sMetM (I 215 2) (I 215 1) (fun i => I 215 (3 + i)) (mR I w) (mR I i) ≠ -19) j := fun _ j z1 z2 z3 => by by_cases e : j = i; exact hnow (e ▸ z3); exact hno hb0 j z1 (by omega) z3
            refine fV_lv (lv' := [(3, .int (i32 (i + 1))), (2, .int (i32 (fB false))), (0, .ref (Γ.1 214)), (1, .int (i32 w))]) [0, 1, 2, 3] rfl ?_
            refine fV_lv (lv' := [(0, .ref (Γ.1 214)), (1, .int (i32 w)), (2, .int (i32 (fB false))), (3, .int (i32 (i + 1)))]) [2, 3, 1, 0] rfl ?_
            exact ih_lp _ (by omega) (i + 1) false (by omega) hbt hbf rfl
          · have hne : i ≠ w := c103
            refine fV_aload_n (pc' := 24) G 0 dX4_meetsAny_23 rfl rfl rfl ?_
            refine fV_iload_n (pc' := 25) G 3 dX4_meetsAny_24 rfl rfl rfl ?_
            refine fV_callVf (st' := [.int (i32 (fB (decide (I 215 (13 + 19 * i + 4) ≠ -1))))]) (n := 1) (k := 214) (K := 4) (As := [.int (i32 i)]) (rest := []) (pc' := 28) G (mX4_isPut l Γ hN I P i (by omega) (hwb _ (by omega) (by omega))) kcX4_meetsAny_41 (by omega) rfl rfl rfl rfl (Nat.le_of_ble_eq_true rfl) (Nat.zero_le _) (Nat.zero_le _) dX4_meetsAny_25 rfl rfl ?_
            refine fV_ifeq_b (tgt := 46) (pc' := 31) G dX4_meetsAny_28 (by decide) rfl (fun c104 => ?_) (fun c104 => ?_)
            · have hpt := c104
              have hnow : ¬ (fun i => i ≠ w ∧ I 215 (13 + 19 * i + 4) ≠ -1 ∧ sMetM (I 215 2) (I 215 1) (fun i => I 215 (3 + i)) (mR I w) (mR I i) ≠ -19) i := fun z => of_decide_eq_false hpt z.2.1
              refine fV_iconst (pc' := 47) G dX4_meetsAny_46 rfl ?_
              refine fV_istore_n (lv' := [(2, .int (i32 0)), (0, .ref (Γ.1 214)), (1, .int (i32 w)), (3, .int (i32 i))]) (pc' := 48) G dX4_meetsAny_47 rfl (by decide) rfl rfl ?_
              refine fV_iinc (lv' := [(3, .int (i32 (i + 1))), (2, .int (i32 0)), (0, .ref (Γ.1 214)), (1, .int (i32 w))]) (pc' := 51) G 3 dX4_meetsAny_48 rfl (by decide) rfl rfl ?_
              refine fV_goto (tgt := 4) G dX4_meetsAny_51 (by decide) ?_
              have hbt : false = true → sMAnyB (fun i => i ≠ w ∧ I 215 (13 + 19 * i + 4) ≠ -1 ∧ sMetM (I 215 2) (I 215 1) (fun i => I 215 (3 + i)) (mR I w) (mR I i) ≠ -19) (I 215 0) = true := fun z => by cases z
              have hbf : false = false → ∀ j, 0 ≤ j → j < i + 1 → ¬ (fun i => i ≠ w ∧ I 215 (13 + 19 * i + 4) ≠ -1 ∧ sMetM (I 215 2) (I 215 1) (fun i => I 215 (3 + i)) (mR I w) (mR I i) ≠ -19) j := fun _ j z1 z2 z3 => by by_cases e : j = i; exact hnow (e ▸ z3); exact hno hb0 j z1 (by omega) z3
              refine fV_lv (lv' := [(3, .int (i32 (i + 1))), (2, .int (i32 (fB false))), (0, .ref (Γ.1 214)), (1, .int (i32 w))]) [0, 1, 2, 3] rfl ?_
              refine fV_lv (lv' := [(0, .ref (Γ.1 214)), (1, .int (i32 w)), (2, .int (i32 (fB false))), (3, .int (i32 (i + 1)))]) [2, 3, 1, 0] rfl ?_
              exact ih_lp _ (by omega) (i + 1) false (by omega) hbt hbf rfl
            · have hpt := c104
              have hmb := sMetM_b (pct := I 215 2) (n := I 215 1) (sh := (fun i => I 215 (3 + i))) (r := mR I w) (q := mR I i) (by have := (hwm i (by omega) (by omega)).2.1; dsimp only [mR] at *; omega) (by have := (hwm i (by omega) (by omega)).2.1; dsimp only [mR] at *; omega)
              refine fV_aload_n (pc' := 32) G 0 dX4_meetsAny_31 rfl rfl rfl ?_
              refine fV_iload_n (pc' := 33) G 1 dX4_meetsAny_32 rfl rfl rfl ?_
              refine fV_iload_n (pc' := 34) G 3 dX4_meetsAny_33 rfl rfl rfl ?_
              refine fV_callVf (st' := [.int (i32 (sMetM (I 215 2) (I 215 1) (fun i => I 215 (3 + i)) (mR I w) (mR I i)))]) (n := 2) (k := 214) (K := 4) (As := [.int (i32 w), .int (i32 i)]) (rest := []) (pc' := 37) G (mX4_meetingOf l Γ hN I P hm w (by omega) hr i (by omega) (hwm _ (by omega) (by omega))) kcX4_meetsAny_78 (by omega) rfl rfl rfl rfl (Nat.le_of_ble_eq_true rfl) (Nat.zero_le _) (Nat.zero_le _) dX4_meetsAny_34 rfl rfl ?_
              refine fV_bipush (n := -19) (pc' := 39) G dX4_meetsAny_37 rfl rfl ?_
              refine fV_icmp_eq (tgt := 46) (pc' := 42) G dX4_meetsAny_39 (by decide) rfl (by omega) (by decide) (fun c105 => ?_) (fun c105 => ?_)
              · have hnow : ¬ (fun i => i ≠ w ∧ I 215 (13 + 19 * i + 4) ≠ -1 ∧ sMetM (I 215 2) (I 215 1) (fun i => I 215 (3 + i)) (mR I w) (mR I i) ≠ -19) i := fun z => z.2.2 c105
                refine fV_iconst (pc' := 47) G dX4_meetsAny_46 rfl ?_
                refine fV_istore_n (lv' := [(2, .int (i32 0)), (0, .ref (Γ.1 214)), (1, .int (i32 w)), (3, .int (i32 i))]) (pc' := 48) G dX4_meetsAny_47 rfl (by decide) rfl rfl ?_
                refine fV_iinc (lv' := [(3, .int (i32 (i + 1))), (2, .int (i32 0)), (0, .ref (Γ.1 214)), (1, .int (i32 w))]) (pc' := 51) G 3 dX4_meetsAny_48 rfl (by decide) rfl rfl ?_
                refine fV_goto (tgt := 4) G dX4_meetsAny_51 (by decide) ?_
                have hbt : false = true → sMAnyB (fun i => i ≠ w ∧ I 215 (13 + 19 * i + 4) ≠ -1 ∧ sMetM (I 215 2) (I 215 1) (fun i => I 215 (3 + i)) (mR I w) (mR I i) ≠ -19) (I 215 0) = true := fun z => by cases z
                have hbf : false = false → ∀ j, 0 ≤ j → j < i + 1 → ¬ (fun i => i ≠ w ∧ I 215 (13 + 19 * i + 4) ≠ -1 ∧ sMetM (I 215 2) (I 215 1) (fun i => I 215 (3 + i)) (mR I w) (mR I i) ≠ -19) j := fun _ j z1 z2 z3 => by by_cases e : j = i; exact hnow (e ▸ z3); exact hno hb0 j z1 (by omega) z3
                refine fV_lv (lv' := [(3, .int (i32 (i + 1))), (2, .int (i32 (fB false))), (0, .ref (Γ.1 214)), (1, .int (i32 w))]) [0, 1, 2, 3] rfl ?_
                refine fV_lv (lv' := [(0, .ref (Γ.1 214)), (1, .int (i32 w)), (2, .int (i32 (fB false))), (3, .int (i32 (i + 1)))]) [2, 3, 1, 0] rfl ?_
                exact ih_lp _ (by omega) (i + 1) false (by omega) hbt hbf rfl
              · have hmet := c105
                refine fV_iconst (pc' := 43) G dX4_meetsAny_42 rfl ?_
                refine fV_goto (tgt := 47) G dX4_meetsAny_43 (by decide) ?_
                refine fV_istore_n (lv' := [(2, .int (i32 1)), (0, .ref (Γ.1 214)), (1, .int (i32 w)), (3, .int (i32 i))]) (pc' := 48) G dX4_meetsAny_47 rfl (by decide) rfl rfl ?_
                refine fV_iinc (lv' := [(3, .int (i32 (i + 1))), (2, .int (i32 1)), (0, .ref (Γ.1 214)), (1, .int (i32 w))]) (pc' := 51) G 3 dX4_meetsAny_48 rfl (by decide) rfl rfl ?_
                refine fV_goto (tgt := 4) G dX4_meetsAny_51 (by decide) ?_
                have hbt : true = true → sMAnyB (fun i => i ≠ w ∧ I 215 (13 + 19 * i + 4) ≠ -1 ∧ sMetM (I 215 2) (I 215 1) (fun i => I 215 (3 + i)) (mR I w) (mR I i) ≠ -19) (I 215 0) = true := fun _ => sMAny_t (i := i) (by omega) (by omega) ⟨hne, of_decide_eq_true hpt, hmet⟩
                have hbf : true = false → ∀ j, 0 ≤ j → j < i + 1 → ¬ (fun i => i ≠ w ∧ I 215 (13 + 19 * i + 4) ≠ -1 ∧ sMetM (I 215 2) (I 215 1) (fun i => I 215 (3 + i)) (mR I w) (mR I i) ≠ -19) j := fun z => by cases z
                refine fV_lv (lv' := [(3, .int (i32 (i + 1))), (2, .int (i32 (fB true))), (0, .ref (Γ.1 214)), (1, .int (i32 w))]) [0, 1, 2, 3] rfl ?_
                refine fV_lv (lv' := [(0, .ref (Γ.1 214)), (1, .int (i32 w)), (2, .int (i32 (fB true))), (3, .int (i32 (i + 1)))]) [2, 3, 1, 0] rfl ?_
                exact ih_lp _ (by omega) (i + 1) true (by omega) hbt hbf rfl
  refine fV_lv (lv' := [(0, .ref (Γ.1 214)), (1, .int (i32 w)), (2, .int (i32 (fB false))), (3, .int (i32 0))]) [2, 3, 1, 0] rfl ?_
  exact lp _ 0 false (by omega) (fun z => by cases z) (fun _ j z1 z2 => by omega) rfl
