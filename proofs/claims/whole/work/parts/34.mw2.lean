/-! CONTRACTS 9: the reference's public writes (rows laid by wip/whole/gen/con9.py) -/
set_option maxHeartbeats 4000000 in
set_option maxRecDepth 100000 in
theorem mX4_addWord (l : Launch) (Γ : fG) {N : Nat} (hN : 220 ≤ N) (I : fM) (P : fN) (ho : mOk I) (le f sp he way : Int) (h_le : -2147483648 ≤ le ∧ le ≤ 2147483647) (h_f : -2147483648 ≤ f ∧ f ≤ 2147483647) (h_sp : -2147483648 ≤ sp ∧ sp ≤ 2147483647) (h_he : -2147483648 ≤ he ∧ he ≤ 2147483647) (h_way : -2147483648 ≤ way ∧ way ≤ 2147483647) : fMet l yX4_addWord wsX4_addWord rmX4_addWord Γ N [.ref (Γ.1 214), .int (i32 le), .int (i32 f), .int (i32 sp), .int (i32 he), .int (i32 way)] I P (fE (some (.int (i32 (qMAdd I le f sp he way)))) (gMAdd I le f sp he way) P) := by
  refine fMet_of (own := RX4) (cc := cX4_addWord) (maxL := 8) (ret := (some .int)) rfl (by decide +kernel) rfl (Nat.le_of_ble_eq_true rfl) ?_
  intro p e s m args below meth c G
  obtain ⟨hm, hwm, hth, hsm, hle⟩ := id ho
  obtain ⟨hm1, hm2, hm3, hm4⟩ := id hm
  refine fV_lv (lv' := [(0, .ref (Γ.1 214)), (1, .int (i32 le)), (2, .int (i32 f)), (3, .int (i32 sp)), (4, .int (i32 he)), (5, .int (i32 way))]) [0, 1, 2, 3, 4, 5] rfl ?_
  refine fV_aload_n (pc' := 1) G 0 dX4_addWord_0 rfl rfl rfl ?_
  refine fV_iconst (pc' := 2) G dX4_addWord_1 rfl ?_
  refine fV_put (K := 4) (jj := 0) (x := 0) (v := .int (i32 0)) (ty := .int) (pc' := 5) G kfX4_addWord_26 (by omega) rfl rfl rfl kp4_0 rfl rfl (Nat.le_of_ble_eq_true rfl) dX4_addWord_2 rfl (fun I1 eI1 => ?_)
  refine fV_mem (I' := I) (P' := P) (by rw [eI1]; exact fup_id hth) rfl ?_
  refine fV_iload_n (pc' := 6) G 1 dX4_addWord_5 rfl rfl rfl ?_
  refine fV_i2l (pc' := 7) G dX4_addWord_6 rfl (by omega) ?_
  refine fV_lconst (v := 1) (pc' := 8) G dX4_addWord_7 rfl rfl ?_
  refine fV_ldc2 (a := 12) (pc' := 11) G klX4_addWord_91 rfl dX4_addWord_8 rfl ?_
  refine fV_callSf (st' := [.int (i32 (fB (sBetw le 1 12)))]) (n := 3) (As := [.long (i64 le), .long (i64 1), .long (i64 12)]) (rest := []) (pc' := 14) G (mX4_in l Γ hN I P le 1 12 (by omega) (by omega) (by omega)) kcX4_addWord_33 rfl rfl (Nat.le_of_ble_eq_true rfl) (Nat.zero_le _) (Nat.zero_le _) dX4_addWord_11 rfl rfl ?_
  refine fV_ifeq_b (tgt := 51) (pc' := 17) G dX4_addWord_14 (by decide) rfl (fun c2 => ?_) (fun c2 => ?_)
  · have d2 : ¬ (1 ≤ le ∧ le ≤ 12) := of_decide_eq_false c2
    refine fV_bipush (n := -11) (pc' := 53) G dX4_addWord_51 rfl rfl ?_
    refine fV_iret G dX4_addWord_53 ?_
    exact fE_im (by unfold qMAdd; (split <;> first | rfl | omega | (split <;> first | rfl | omega | (split <;> first | rfl | omega | (split <;> first | rfl | omega | (split <;> first | rfl | omega | (split <;> first | rfl | omega | (split <;> first | rfl | omega)))))))) (by unfold gMAdd; rw [if_neg (by omega)]) rfl
  · have d2 : (1 ≤ le ∧ le ≤ 12) := of_decide_eq_true c2
    refine fV_iconst (pc' := 18) G dX4_addWord_17 rfl ?_
    refine fV_iload_n (pc' := 19) G 2 dX4_addWord_18 rfl rfl rfl ?_
    refine fV_callSf (st' := [.int (i32 (fB (sAllowed 0 f)))]) (n := 2) (As := [.int (i32 0), .int (i32 f)]) (rest := []) (pc' := 22) G (mX4_isPart l Γ hN I P 0 f (by omega) (by omega)) kcX4_addWord_93 rfl rfl (Nat.le_of_ble_eq_true rfl) (Nat.zero_le _) (Nat.zero_le _) dX4_addWord_19 rfl rfl ?_
    refine fV_ifeq_b (tgt := 51) (pc' := 25) G dX4_addWord_22 (by decide) rfl (fun c3 => ?_) (fun c3 => ?_)
    · have d3 : ¬ (((0 : Int) = 0 ∧ 0 ≤ f ∧ f ≤ 2000) ∨ ((0 : Int) = 1 ∧ 1 ≤ f ∧ f ≤ 60) ∨ ((0 : Int) = 2 ∧ 0 ≤ f ∧ f ≤ 60) ∨ ((0 : Int) = 3 ∧ 0 ≤ f ∧ f ≤ 4)) := of_decide_eq_false c3
      refine fV_bipush (n := -11) (pc' := 53) G dX4_addWord_51 rfl rfl ?_
      refine fV_iret G dX4_addWord_53 ?_
      exact fE_im (by unfold qMAdd; (split <;> first | rfl | omega | (split <;> first | rfl | omega | (split <;> first | rfl | omega | (split <;> first | rfl | omega | (split <;> first | rfl | omega | (split <;> first | rfl | omega | (split <;> first | rfl | omega)))))))) (by unfold gMAdd; rw [if_neg (by omega)]) rfl
    · have d3 : (((0 : Int) = 0 ∧ 0 ≤ f ∧ f ≤ 2000) ∨ ((0 : Int) = 1 ∧ 1 ≤ f ∧ f ≤ 60) ∨ ((0 : Int) = 2 ∧ 0 ≤ f ∧ f ≤ 60) ∨ ((0 : Int) = 3 ∧ 0 ≤ f ∧ f ≤ 4)) := of_decide_eq_true c3
      refine fV_iconst (pc' := 26) G dX4_addWord_25 rfl ?_
      refine fV_iload_n (pc' := 27) G 3 dX4_addWord_26 rfl rfl rfl ?_
      refine fV_callSf (st' := [.int (i32 (fB (sAllowed 1 sp)))]) (n := 2) (As := [.int (i32 1), .int (i32 sp)]) (rest := []) (pc' := 30) G (mX4_isPart l Γ hN I P 1 sp (by omega) (by omega)) kcX4_addWord_93 rfl rfl (Nat.le_of_ble_eq_true rfl) (Nat.zero_le _) (Nat.zero_le _) dX4_addWord_27 rfl rfl ?_
      refine fV_ifeq_b (tgt := 51) (pc' := 33) G dX4_addWord_30 (by decide) rfl (fun c4 => ?_) (fun c4 => ?_)
      · have d4 : ¬ (((1 : Int) = 0 ∧ 0 ≤ sp ∧ sp ≤ 2000) ∨ ((1 : Int) = 1 ∧ 1 ≤ sp ∧ sp ≤ 60) ∨ ((1 : Int) = 2 ∧ 0 ≤ sp ∧ sp ≤ 60) ∨ ((1 : Int) = 3 ∧ 0 ≤ sp ∧ sp ≤ 4)) := of_decide_eq_false c4
        refine fV_bipush (n := -11) (pc' := 53) G dX4_addWord_51 rfl rfl ?_
        refine fV_iret G dX4_addWord_53 ?_
        exact fE_im (by unfold qMAdd; (split <;> first | rfl | omega | (split <;> first | rfl | omega | (split <;> first | rfl | omega | (split <;> first | rfl | omega | (split <;> first | rfl | omega | (split <;> first | rfl | omega | (split <;> first | rfl | omega)))))))) (by unfold gMAdd; rw [if_neg (by omega)]) rfl
      · have d4 : (((1 : Int) = 0 ∧ 0 ≤ sp ∧ sp ≤ 2000) ∨ ((1 : Int) = 1 ∧ 1 ≤ sp ∧ sp ≤ 60) ∨ ((1 : Int) = 2 ∧ 0 ≤ sp ∧ sp ≤ 60) ∨ ((1 : Int) = 3 ∧ 0 ≤ sp ∧ sp ≤ 4)) := of_decide_eq_true c4
        refine fV_iconst (pc' := 34) G dX4_addWord_33 rfl ?_
        refine fV_iload (pc' := 36) G 4 dX4_addWord_34 rfl rfl ?_
        refine fV_callSf (st' := [.int (i32 (fB (sAllowed 2 he)))]) (n := 2) (As := [.int (i32 2), .int (i32 he)]) (rest := []) (pc' := 39) G (mX4_isPart l Γ hN I P 2 he (by omega) (by omega)) kcX4_addWord_93 rfl rfl (Nat.le_of_ble_eq_true rfl) (Nat.zero_le _) (Nat.zero_le _) dX4_addWord_36 rfl rfl ?_
        refine fV_ifeq_b (tgt := 51) (pc' := 42) G dX4_addWord_39 (by decide) rfl (fun c5 => ?_) (fun c5 => ?_)
        · have d5 : ¬ (((2 : Int) = 0 ∧ 0 ≤ he ∧ he ≤ 2000) ∨ ((2 : Int) = 1 ∧ 1 ≤ he ∧ he ≤ 60) ∨ ((2 : Int) = 2 ∧ 0 ≤ he ∧ he ≤ 60) ∨ ((2 : Int) = 3 ∧ 0 ≤ he ∧ he ≤ 4)) := of_decide_eq_false c5
          refine fV_bipush (n := -11) (pc' := 53) G dX4_addWord_51 rfl rfl ?_
          refine fV_iret G dX4_addWord_53 ?_
          exact fE_im (by unfold qMAdd; (split <;> first | rfl | omega | (split <;> first | rfl | omega | (split <;> first | rfl | omega | (split <;> first | rfl | omega | (split <;> first | rfl | omega | (split <;> first | rfl | omega | (split <;> first | rfl | omega)))))))) (by unfold gMAdd; rw [if_neg (by omega)]) rfl
        · have d5 : (((2 : Int) = 0 ∧ 0 ≤ he ∧ he ≤ 2000) ∨ ((2 : Int) = 1 ∧ 1 ≤ he ∧ he ≤ 60) ∨ ((2 : Int) = 2 ∧ 0 ≤ he ∧ he ≤ 60) ∨ ((2 : Int) = 3 ∧ 0 ≤ he ∧ he ≤ 4)) := of_decide_eq_true c5
          refine fV_iconst (pc' := 43) G dX4_addWord_42 rfl ?_
          refine fV_iload (pc' := 45) G 5 dX4_addWord_43 rfl rfl ?_
          refine fV_callSf (st' := [.int (i32 (fB (sAllowed 3 way)))]) (n := 2) (As := [.int (i32 3), .int (i32 way)]) (rest := []) (pc' := 48) G (mX4_isPart l Γ hN I P 3 way (by omega) (by omega)) kcX4_addWord_93 rfl rfl (Nat.le_of_ble_eq_true rfl) (Nat.zero_le _) (Nat.zero_le _) dX4_addWord_45 rfl rfl ?_
          refine fV_ifne_b (tgt := 54) (pc' := 51) G dX4_addWord_48 (by decide) rfl (fun c6 => ?_) (fun c6 => ?_)
          · have d6 : (((3 : Int) = 0 ∧ 0 ≤ way ∧ way ≤ 2000) ∨ ((3 : Int) = 1 ∧ 1 ≤ way ∧ way ≤ 60) ∨ ((3 : Int) = 2 ∧ 0 ≤ way ∧ way ≤ 60) ∨ ((3 : Int) = 3 ∧ 0 ≤ way ∧ way ≤ 4)) := of_decide_eq_true c6
            refine fV_aload_n (pc' := 55) G 0 dX4_addWord_54 rfl rfl rfl ?_
            refine fV_get (K := 4) (v := .ref (Γ.1 215)) (pc' := 58) G kfX4_addWord_7 (by omega) rfl rfl rfl dX4_addWord_55 rfl ?_
            refine fV_iconst (pc' := 59) G dX4_addWord_58 rfl ?_
            refine fV_iald (K := 8) (n := 241) (pc' := 60) G (by omega) rfl (fun _ _ => rfl) (by decide) (by omega) dX4_addWord_59 rfl ?_
            refine fV_bipush (n := 12) (pc' := 62) G dX4_addWord_60 rfl rfl ?_
            refine fV_icmp_ne (tgt := 68) (pc' := 65) G dX4_addWord_62 (by decide) rfl (by omega) (by decide) (fun c7 => ?_) (fun c7 => ?_)
            · refine fV_aload_n (pc' := 69) G 0 dX4_addWord_68 rfl rfl rfl ?_
              obtain ⟨I8, eI8⟩ : ∃ J9 : fM, J9 = mAct I := ⟨_, rfl⟩
              refine fV_callVf (I' := I8) (st' := []) (n := 0) (k := 214) (K := 4) (As := []) (rest := []) (pc' := 72) G (by rw [eI8]; exact mX4_act l Γ hN I P (by first | exact hsm | omega)) kcX4_addWord_96 (by omega) rfl rfl rfl rfl (Nat.le_of_ble_eq_true rfl) (Nat.zero_le _) (Nat.zero_le _) dX4_addWord_69 rfl rfl ?_
              have hA0 : I8 215 0 = I 215 0 := by rw [eI8, mAct_o (by decide) (by decide)]
              refine fV_aload_n (pc' := 73) G 0 dX4_addWord_72 rfl rfl rfl ?_
              refine fV_iload_n (pc' := 74) G 1 dX4_addWord_73 rfl rfl rfl ?_
              refine fV_iload_n (pc' := 75) G 2 dX4_addWord_74 rfl rfl rfl ?_
              refine fV_iload_n (pc' := 76) G 3 dX4_addWord_75 rfl rfl rfl ?_
              refine fV_iload (pc' := 78) G 4 dX4_addWord_76 rfl rfl ?_
              refine fV_iload (pc' := 80) G 5 dX4_addWord_78 rfl rfl ?_
              obtain ⟨I9, eI9⟩ : ∃ J9 : fM, J9 = mMake I8 le f sp he way := ⟨_, rfl⟩
              refine fV_callVf (I' := I9) (st' := [.int (i32 (I8 215 0))]) (n := 5) (k := 214) (K := 4) (As := [.int (i32 le), .int (i32 f), .int (i32 sp), .int (i32 he), .int (i32 way)]) (rest := []) (pc' := 83) G (by rw [eI9]; exact mX4_makeWord l Γ hN I8 P (by omega) le f sp he way) kcX4_addWord_99 (by omega) rfl rfl rfl rfl (Nat.le_of_ble_eq_true rfl) (Nat.zero_le _) (Nat.zero_le _) dX4_addWord_80 rfl rfl ?_
              refine fV_top (b := I 215 0) hA0 ?_
              refine fV_istore (lv' := [(6, .int (i32 (I 215 0))), (0, .ref (Γ.1 214)), (1, .int (i32 le)), (2, .int (i32 f)), (3, .int (i32 sp)), (4, .int (i32 he)), (5, .int (i32 way))]) (pc' := 85) G dX4_addWord_83 (by decide) rfl rfl ?_
              refine fV_iconst (pc' := 86) G dX4_addWord_85 rfl ?_
              refine fV_istore (lv' := [(7, .int (i32 0)), (6, .int (i32 (I 215 0))), (0, .ref (Γ.1 214)), (1, .int (i32 le)), (2, .int (i32 f)), (3, .int (i32 sp)), (4, .int (i32 he)), (5, .int (i32 way))]) (pc' := 88) G dX4_addWord_86 (by decide) rfl rfl ?_
              have lp : ∀ (z : Nat) (i : Int) (J : fM), 0 ≤ i ∧ i ≤ le → J = mLet I9 215 (13 + 19 * I 215 0 + 7) i → ((le - i).toNat) = z → fV p l e rmX4_addWord s m args below meth c (MQ below (fQ Γ N (fE (some (.int (i32 (qMAdd I le f sp he way)))) (gMAdd I le f sp he way) P)) args s 0 0 (fA Γ N)) (fA Γ N) Γ N 8 0 0 J P 88 [(0, .ref (Γ.1 214)), (1, .int (i32 le)), (6, .int (i32 (I 215 0))), (7, .int (i32 i))] [] := by
                intro z
                induction z using Nat.strongRecOn with
                | _ z ih_lp =>
                  intro i J hi hJ hz_lp
                  refine fV_iload (pc' := 90) G 3 dX4_addWord_88 rfl rfl ?_
                  refine fV_iload_n (pc' := 91) G 1 dX4_addWord_90 rfl rfl rfl ?_
                  refine fV_icmp_ge (tgt := 116) (pc' := 94) G dX4_addWord_91 (by decide) rfl (by omega) (by omega) (fun c110 => ?_) (fun c110 => ?_)
                  · refine fV_iload (pc' := 118) G 2 dX4_addWord_116 rfl rfl ?_
                    refine fV_iret G dX4_addWord_118 ?_
                    exact fE_im (by unfold qMAdd; rw [if_pos (by omega), if_neg (by omega)]) (by unfold gMAdd; rw [if_pos (by omega), hJ, show i = le by omega, eI9, eI8]) rfl
                  · refine fV_aload_n (pc' := 95) G 0 dX4_addWord_94 rfl rfl rfl ?_
                    refine fV_iload (pc' := 97) G 2 dX4_addWord_95 rfl rfl ?_
                    refine fV_bipush (n := 7) (pc' := 99) G dX4_addWord_97 rfl rfl ?_
                    refine fV_iload (pc' := 101) G 3 dX4_addWord_99 rfl rfl ?_
                    refine fV_iadd (pc' := 102) G dX4_addWord_101 rfl ?_
                    refine fV_bipush (n := 97) (pc' := 104) G dX4_addWord_102 rfl rfl ?_
                    refine fV_iload (pc' := 106) G 3 dX4_addWord_104 rfl rfl ?_
                    refine fV_iadd (pc' := 107) G dX4_addWord_106 rfl ?_
                    obtain ⟨I111, eI111⟩ : ∃ J9 : fM, J9 = fup J 215 (13 + 19 * (I 215 0) + (7 + i)) (97 + i) := ⟨_, rfl⟩
                    refine fV_callVf (I' := I111) (st' := []) (n := 3) (k := 214) (K := 4) (As := [.int (i32 (I 215 0)), .int (i32 (7 + i)), .int (i32 (97 + i))]) (rest := []) (pc' := 110) G (by rw [eI111]; exact mX4_set l Γ hN J P (I 215 0) (by omega) (7 + i) (by omega) (97 + i)) kcX4_addWord_81 (by omega) rfl rfl rfl rfl (Nat.le_of_ble_eq_true rfl) (Nat.zero_le _) (Nat.zero_le _) dX4_addWord_107 rfl rfl ?_
                    refine fV_iinc (lv' := [(7, .int (i32 (i + 1))), (0, .ref (Γ.1 214)), (1, .int (i32 le)), (6, .int (i32 (I 215 0)))]) (pc' := 113) G 3 dX4_addWord_110 rfl (by decide) rfl rfl ?_
                    refine fV_goto (tgt := 88) G dX4_addWord_113 (by decide) ?_
                    refine fV_lv (lv' := [(0, .ref (Γ.1 214)), (1, .int (i32 le)), (6, .int (i32 (I 215 0))), (7, .int (i32 (i + 1)))]) [1, 2, 3, 0] rfl ?_
                    exact ih_lp _ (by omega) (i + 1) I111 (by omega) (by rw [eI111, hJ, ← mLet_s (by omega), show 13 + 19 * I 215 0 + (7 + i) = 13 + 19 * I 215 0 + 7 + i by omega]) rfl
              refine fV_lv (lv' := [(0, .ref (Γ.1 214)), (1, .int (i32 le)), (6, .int (i32 (I 215 0))), (7, .int (i32 0))]) [2, 3, 1, 0] rfl ?_
              exact lp _ 0 I9 (by omega) ((mLet_0 _ _ _).symm) rfl
            · refine fV_bipush (n := -13) (pc' := 67) G dX4_addWord_65 rfl rfl ?_
              refine fV_iret G dX4_addWord_67 ?_
              exact fE_im (by unfold qMAdd; (split <;> first | rfl | omega | (split <;> first | rfl | omega | (split <;> first | rfl | omega | (split <;> first | rfl | omega | (split <;> first | rfl | omega | (split <;> first | rfl | omega | (split <;> first | rfl | omega)))))))) (by unfold gMAdd; rw [if_neg (by omega)]) rfl
          · have d6 : ¬ (((3 : Int) = 0 ∧ 0 ≤ way ∧ way ≤ 2000) ∨ ((3 : Int) = 1 ∧ 1 ≤ way ∧ way ≤ 60) ∨ ((3 : Int) = 2 ∧ 0 ≤ way ∧ way ≤ 60) ∨ ((3 : Int) = 3 ∧ 0 ≤ way ∧ way ≤ 4)) := of_decide_eq_false c6
            refine fV_bipush (n := -11) (pc' := 53) G dX4_addWord_51 rfl rfl ?_
            refine fV_iret G dX4_addWord_53 ?_
            exact fE_im (by unfold qMAdd; (split <;> first | rfl | omega | (split <;> first | rfl | omega | (split <;> first | rfl | omega | (split <;> first | rfl | omega | (split <;> first | rfl | omega | (split <;> first | rfl | omega | (split <;> first | rfl | omega)))))))) (by unfold gMAdd; rw [if_neg (by omega)]) rfl
set_option maxHeartbeats 4000000 in
set_option maxRecDepth 100000 in
theorem mX4_removeWord (l : Launch) (Γ : fG) {N : Nat} (hN : 220 ≤ N) (I : fM) (P : fN) (ho : mOk I) (w : Int) (h_w : -2147483648 ≤ w ∧ w ≤ 2147483647) : fMet l yX4_removeWord wsX4_removeWord rmX4_removeWord Γ N [.ref (Γ.1 214), .int (i32 w)] I P (fE (some (.int (i32 (qMRem I w)))) (gMRem I w) P) := by
  refine fMet_of (own := RX4) (cc := cX4_removeWord) (maxL := 3) (ret := (some .int)) rfl (by decide +kernel) rfl (Nat.le_of_ble_eq_true rfl) ?_
  intro p e s m args below meth c G
  obtain ⟨hm, hwm, hth, hsm, hle⟩ := id ho
  obtain ⟨hm1, hm2, hm3, hm4⟩ := id hm
  refine fV_lv (lv' := [(0, .ref (Γ.1 214)), (1, .int (i32 w))]) [0, 1] rfl ?_
  refine fV_aload_n (pc' := 1) G 0 dX4_removeWord_0 rfl rfl rfl ?_
  refine fV_iconst (pc' := 2) G dX4_removeWord_1 rfl ?_
  refine fV_put (K := 4) (jj := 0) (x := 0) (v := .int (i32 0)) (ty := .int) (pc' := 5) G kfX4_removeWord_26 (by omega) rfl rfl rfl kp4_0 rfl rfl (Nat.le_of_ble_eq_true rfl) dX4_removeWord_2 rfl (fun I1 eI1 => ?_)
  refine fV_mem (I' := I) (P' := P) (by rw [eI1]; exact fup_id hth) rfl ?_
  refine fV_aload_n (pc' := 6) G 0 dX4_removeWord_5 rfl rfl rfl ?_
  refine fV_iload_n (pc' := 7) G 1 dX4_removeWord_6 rfl rfl rfl ?_
  refine fV_callVf (st' := [.int (i32 (fB (decide (0 ≤ w ∧ w < I 215 0))))]) (n := 1) (k := 214) (K := 4) (As := [.int (i32 w)]) (rest := []) (pc' := 10) G (mX4_isWord l Γ hN I P hm1 w (by omega)) kcX4_removeWord_103 (by omega) rfl rfl rfl rfl (Nat.le_of_ble_eq_true rfl) (Nat.zero_le _) (Nat.zero_le _) dX4_removeWord_7 rfl rfl ?_
  refine fV_ifne_b (tgt := 16) (pc' := 13) G dX4_removeWord_10 (by decide) rfl (fun c2 => ?_) (fun c2 => ?_)
  · have d2 : (0 ≤ w ∧ w < I 215 0) := of_decide_eq_true c2
    refine fV_aload_n (pc' := 17) G 0 dX4_removeWord_16 rfl rfl rfl ?_
    obtain ⟨I3, eI3⟩ : ∃ J9 : fM, J9 = mAct I := ⟨_, rfl⟩
    refine fV_callVf (I' := I3) (st' := []) (n := 0) (k := 214) (K := 4) (As := []) (rest := []) (pc' := 20) G (by rw [eI3]; exact mX4_act l Γ hN I P (by first | exact hsm | omega)) kcX4_removeWord_96 (by omega) rfl rfl rfl rfl (Nat.le_of_ble_eq_true rfl) (Nat.zero_le _) (Nat.zero_le _) dX4_removeWord_17 rfl rfl ?_
    have hA0 : I3 215 0 = I 215 0 := by rw [eI3, mAct_o (by decide) (by decide)]
    refine fV_aload_n (pc' := 21) G 0 dX4_removeWord_20 rfl rfl rfl ?_
    refine fV_get (K := 4) (v := .ref (Γ.1 215)) (pc' := 24) G kfX4_removeWord_7 (by omega) rfl rfl rfl dX4_removeWord_21 rfl ?_
    refine fV_iconst (pc' := 25) G dX4_removeWord_24 rfl ?_
    refine fV_dup2 (pc' := 26) G dX4_removeWord_25 rfl rfl rfl ?_
    refine fV_iald (K := 8) (n := 241) (pc' := 27) G (by omega) rfl (fun _ _ => rfl) (by decide) (by omega) dX4_removeWord_26 rfl ?_
    refine fV_top (b := I 215 0) hA0 ?_
    refine fV_iconst (pc' := 28) G dX4_removeWord_27 rfl ?_
    refine fV_isub (pc' := 29) G dX4_removeWord_28 rfl ?_
    refine fV_iast (K := 8) (n := 241) (pc' := 30) G (by omega) rfl (fun _ _ => rfl) (by decide) (by omega) dX4_removeWord_29 rfl (fun I4 eI4 => ?_)
    refine fV_bipush (n := 13) (pc' := 32) G dX4_removeWord_30 rfl rfl ?_
    refine fV_bipush (n := 19) (pc' := 34) G dX4_removeWord_32 rfl rfl ?_
    refine fV_iload_n (pc' := 35) G 1 dX4_removeWord_34 rfl rfl rfl ?_
    refine fV_imul (pc' := 36) G dX4_removeWord_35 rfl ?_
    refine fV_iadd (pc' := 37) G dX4_removeWord_36 rfl ?_
    refine fV_istore_n (lv' := [(2, .int (i32 (13 + (19 * w)))), (0, .ref (Γ.1 214)), (1, .int (i32 w))]) (pc' := 38) G dX4_removeWord_37 rfl (by decide) rfl rfl ?_
    have hM0 : I4 215 0 = I 215 0 - 1 := by rw [eI4, fup_s]
    have lp : ∀ (z : Nat) (i : Int) (J : fM), 13 + 19 * w ≤ i ∧ i ≤ 13 + 19 * (I 215 0 - 1) → J = fcpy I4 215 (13 + 19 * w + 19) 215 (13 + 19 * w) (i - (13 + 19 * w)) → ((13 + 19 * (I 215 0 - 1) - i).toNat) = z → fV p l e rmX4_removeWord s m args below meth c (MQ below (fQ Γ N (fE (some (.int (i32 (qMRem I w)))) (gMRem I w) P)) args s 0 0 (fA Γ N)) (fA Γ N) Γ N 3 0 0 J P 38 [(0, .ref (Γ.1 214)), (1, .int (i32 w)), (2, .int (i32 i))] [] := by
      intro z
      induction z using Nat.strongRecOn with
      | _ z ih_lp =>
        intro i J hi hJ hz_lp
        refine fV_iload_n (pc' := 39) G 2 dX4_removeWord_38 rfl rfl rfl ?_
        refine fV_bipush (n := 13) (pc' := 41) G dX4_removeWord_39 rfl rfl ?_
        refine fV_bipush (n := 19) (pc' := 43) G dX4_removeWord_41 rfl rfl ?_
        refine fV_aload_n (pc' := 44) G 0 dX4_removeWord_43 rfl rfl rfl ?_
        refine fV_get (K := 4) (v := .ref (Γ.1 215)) (pc' := 47) G kfX4_removeWord_7 (by omega) rfl rfl rfl dX4_removeWord_44 rfl ?_
        refine fV_iconst (pc' := 48) G dX4_removeWord_47 rfl ?_
        refine fV_iald (K := 8) (n := 241) (pc' := 49) G (by omega) rfl (fun _ _ => rfl) (by decide) (by omega) dX4_removeWord_48 rfl ?_
        refine fV_top (b := I 215 0 - 1) (by rw [hJ, fcpy_o (by omega), hM0]) ?_
        refine fV_imul (pc' := 50) G dX4_removeWord_49 rfl ?_
        refine fV_iadd (pc' := 51) G dX4_removeWord_50 rfl ?_
        refine fV_icmp_ge (tgt := 75) (pc' := 54) G dX4_removeWord_51 (by decide) rfl (by omega) (by omega) (fun c105 => ?_) (fun c105 => ?_)
        · refine fV_aload_n (pc' := 76) G 0 dX4_removeWord_75 rfl rfl rfl ?_
          refine fV_get (K := 4) (v := .ref (Γ.1 215)) (pc' := 79) G kfX4_removeWord_7 (by omega) rfl rfl rfl dX4_removeWord_76 rfl ?_
          refine fV_iconst (pc' := 80) G dX4_removeWord_79 rfl ?_
          refine fV_iald (K := 8) (n := 241) (pc' := 81) G (by omega) rfl (fun _ _ => rfl) (by decide) (by omega) dX4_removeWord_80 rfl ?_
          refine fV_top (b := I 215 0 - 1) (by rw [hJ, fcpy_o (by omega), hM0]) ?_
          refine fV_iret G dX4_removeWord_81 ?_
          exact fE_im (by unfold qMRem; rw [if_pos (by omega)]) (by unfold gMRem; rw [if_pos (by omega), hJ, show i - (13 + 19 * w) = 19 * (I 215 0 - 1 - w) by omega, eI4, eI3]) rfl
        · refine fV_aload_n (pc' := 55) G 0 dX4_removeWord_54 rfl rfl rfl ?_
          refine fV_get (K := 4) (v := .ref (Γ.1 215)) (pc' := 58) G kfX4_removeWord_7 (by omega) rfl rfl rfl dX4_removeWord_55 rfl ?_
          refine fV_iload_n (pc' := 59) G 2 dX4_removeWord_58 rfl rfl rfl ?_
          refine fV_aload_n (pc' := 60) G 0 dX4_removeWord_59 rfl rfl rfl ?_
          refine fV_get (K := 4) (v := .ref (Γ.1 215)) (pc' := 63) G kfX4_removeWord_7 (by omega) rfl rfl rfl dX4_removeWord_60 rfl ?_
          refine fV_iload_n (pc' := 64) G 2 dX4_removeWord_63 rfl rfl rfl ?_
          refine fV_bipush (n := 19) (pc' := 66) G dX4_removeWord_64 rfl rfl ?_
          refine fV_iadd (pc' := 67) G dX4_removeWord_66 rfl ?_
          refine fV_iald (K := 8) (n := 241) (pc' := 68) G (by omega) rfl (fun _ _ => rfl) (by decide) (by omega) dX4_removeWord_67 rfl ?_
          refine fV_iast (K := 8) (n := 241) (pc' := 69) G (by omega) rfl (fun _ _ => rfl) (by decide) (by omega) dX4_removeWord_68 rfl (fun I106 eI106 => ?_)
          refine fV_iinc (lv' := [(2, .int (i32 (i + 1))), (0, .ref (Γ.1 214)), (1, .int (i32 w))]) (pc' := 72) G 2 dX4_removeWord_69 rfl (by decide) rfl rfl ?_
          refine fV_goto (tgt := 38) G dX4_removeWord_72 (by decide) ?_
          refine fV_lv (lv' := [(0, .ref (Γ.1 214)), (1, .int (i32 w)), (2, .int (i32 (i + 1)))]) [1, 2, 0] rfl ?_
          exact ih_lp _ (by omega) (i + 1) I106 (by omega) (by rw [eI106, hJ]; have e := fcpy_s (I := I4) (k1 := 215) (sp := 13 + 19 * w + 19) (k2 := 215) (dp := 13 + 19 * w) (n := i - (13 + 19 * w)) (Or.inr (by omega)) (by omega); rw [show 13 + 19 * w + (i - (13 + 19 * w)) = i by omega, show 13 + 19 * w + 19 + (i - (13 + 19 * w)) = i + 19 by omega] at e; rw [e, show i - (13 + 19 * w) + 1 = i + 1 - (13 + 19 * w) by omega]) rfl
    refine fV_lv (lv' := [(0, .ref (Γ.1 214)), (1, .int (i32 w)), (2, .int (i32 (13 + (19 * w))))]) [1, 2, 0] rfl ?_
    exact lp _ (13 + 19 * w) I4 (by omega) (by rw [Int.sub_self]; exact (fcpy_0 _ _ _ _ _).symm) rfl
  · have d2 : ¬ (0 ≤ w ∧ w < I 215 0) := of_decide_eq_false c2
    refine fV_bipush (n := -11) (pc' := 15) G dX4_removeWord_13 rfl rfl ?_
    refine fV_iret G dX4_removeWord_15 ?_
    exact fE_im (by unfold qMRem; rw [if_neg (by omega)]) (by unfold gMRem; rw [if_neg (by omega)]) rfl
set_option maxHeartbeats 4000000 in
set_option maxRecDepth 100000 in
theorem mX4_setWord (l : Launch) (Γ : fG) {N : Nat} (hN : 220 ≤ N) (I : fM) (P : fN) (ho : mOk I) (w what v : Int) (h_w : -2147483648 ≤ w ∧ w ≤ 2147483647) (h_what : -2147483648 ≤ what ∧ what ≤ 2147483647) (h_v : -2147483648 ≤ v ∧ v ≤ 2147483647) : fMet l yX4_setWord wsX4_setWord rmX4_setWord Γ N [.ref (Γ.1 214), .int (i32 w), .int (i32 what), .int (i32 v)] I P (fE (some (.int (i32 (qMSet I w what v)))) (gMSet I w what v) P) := by
  refine fMet_of (own := RX4) (cc := cX4_setWord) (maxL := 5) (ret := (some .int)) rfl (by decide +kernel) rfl (Nat.le_of_ble_eq_true rfl) ?_
  intro p e s m args below meth c G
  obtain ⟨hm, hwm, hth, hsm, hle⟩ := id ho
  obtain ⟨hm1, hm2, hm3, hm4⟩ := id hm
  refine fV_lv (lv' := [(0, .ref (Γ.1 214)), (1, .int (i32 w)), (2, .int (i32 what)), (3, .int (i32 v))]) [0, 1, 2, 3] rfl ?_
  refine fV_aload_n (pc' := 1) G 0 dX4_setWord_0 rfl rfl rfl ?_
  refine fV_iconst (pc' := 2) G dX4_setWord_1 rfl ?_
  refine fV_put (K := 4) (jj := 0) (x := 0) (v := .int (i32 0)) (ty := .int) (pc' := 5) G kfX4_setWord_26 (by omega) rfl rfl rfl kp4_0 rfl rfl (Nat.le_of_ble_eq_true rfl) dX4_setWord_2 rfl (fun I1 eI1 => ?_)
  refine fV_mem (I' := I) (P' := P) (by rw [eI1]; exact fup_id hth) rfl ?_
  refine fV_aload_n (pc' := 6) G 0 dX4_setWord_5 rfl rfl rfl ?_
  refine fV_iload_n (pc' := 7) G 1 dX4_setWord_6 rfl rfl rfl ?_
  refine fV_callVf (st' := [.int (i32 (fB (decide (0 ≤ w ∧ w < I 215 0))))]) (n := 1) (k := 214) (K := 4) (As := [.int (i32 w)]) (rest := []) (pc' := 10) G (mX4_isWord l Γ hN I P hm1 w (by omega)) kcX4_setWord_103 (by omega) rfl rfl rfl rfl (Nat.le_of_ble_eq_true rfl) (Nat.zero_le _) (Nat.zero_le _) dX4_setWord_7 rfl rfl ?_
  refine fV_ifeq_b (tgt := 21) (pc' := 13) G dX4_setWord_10 (by decide) rfl (fun c2 => ?_) (fun c2 => ?_)
  · have d2 : ¬ (0 ≤ w ∧ w < I 215 0) := of_decide_eq_false c2
    refine fV_bipush (n := -11) (pc' := 23) G dX4_setWord_21 rfl rfl ?_
    refine fV_iret G dX4_setWord_23 ?_
    exact fE_im (by unfold qMSet; rw [if_neg (by first | (intro z; omega) | (intro z; rw [hal] at z; cases z.2))]) (by unfold gMSet; rw [if_neg (by first | (intro z; omega) | (intro z; rw [hal] at z; cases z.2))]) rfl
  · have d2 : (0 ≤ w ∧ w < I 215 0) := of_decide_eq_true c2
    refine fV_iload_n (pc' := 14) G 2 dX4_setWord_13 rfl rfl rfl ?_
    refine fV_iload_n (pc' := 15) G 3 dX4_setWord_14 rfl rfl rfl ?_
    refine fV_callSf (st' := [.int (i32 (fB (sAllowed what v)))]) (n := 2) (As := [.int (i32 what), .int (i32 v)]) (rest := []) (pc' := 18) G (mX4_isPart l Γ hN I P what v (by omega) (by omega)) kcX4_setWord_93 rfl rfl (Nat.le_of_ble_eq_true rfl) (Nat.zero_le _) (Nat.zero_le _) dX4_setWord_15 rfl rfl ?_
    refine fV_ifne_b (tgt := 24) (pc' := 21) G dX4_setWord_18 (by decide) rfl (fun c3 => ?_) (fun c3 => ?_)
    · have d3 : (((what : Int) = 0 ∧ 0 ≤ v ∧ v ≤ 2000) ∨ ((what : Int) = 1 ∧ 1 ≤ v ∧ v ≤ 60) ∨ ((what : Int) = 2 ∧ 0 ≤ v ∧ v ≤ 60) ∨ ((what : Int) = 3 ∧ 0 ≤ v ∧ v ≤ 4)) := of_decide_eq_true c3
      have hal := c3
      refine fV_aload_n (pc' := 25) G 0 dX4_setWord_24 rfl rfl rfl ?_
      obtain ⟨I4, eI4⟩ : ∃ J9 : fM, J9 = mAct I := ⟨_, rfl⟩
      refine fV_callVf (I' := I4) (st' := []) (n := 0) (k := 214) (K := 4) (As := []) (rest := []) (pc' := 28) G (by rw [eI4]; exact mX4_act l Γ hN I P (by first | exact hsm | omega)) kcX4_setWord_96 (by omega) rfl rfl rfl rfl (Nat.le_of_ble_eq_true rfl) (Nat.zero_le _) (Nat.zero_le _) dX4_setWord_25 rfl rfl ?_
      have hA : I4 215 = I 215 := by rw [eI4, mAct_o (by decide) (by decide)]
      refine fV_aload_n (pc' := 29) G 0 dX4_setWord_28 rfl rfl rfl ?_
      refine fV_iload_n (pc' := 30) G 1 dX4_setWord_29 rfl rfl rfl ?_
      refine fV_iload_n (pc' := 31) G 2 dX4_setWord_30 rfl rfl rfl ?_
      refine fV_callVf (st' := [.int (i32 (I4 215 (13 + 19 * w + what)))]) (n := 2) (k := 214) (K := 4) (As := [.int (i32 w), .int (i32 what)]) (rest := []) (pc' := 34) G (mX4_of l Γ hN I4 P w (by omega) what (by omega)) kcX4_setWord_37 (by omega) rfl rfl rfl rfl (Nat.le_of_ble_eq_true rfl) (Nat.zero_le _) (Nat.zero_le _) dX4_setWord_31 rfl rfl ?_
      refine fV_top (b := I 215 (13 + 19 * w + what)) (by rw [hA]) ?_
      refine fV_istore (lv' := [(4, .int (i32 (I 215 (13 + 19 * w + what)))), (0, .ref (Γ.1 214)), (1, .int (i32 w)), (2, .int (i32 what)), (3, .int (i32 v))]) (pc' := 36) G dX4_setWord_34 (by decide) rfl rfl ?_
      refine fV_aload_n (pc' := 37) G 1 dX4_setWord_36 rfl rfl rfl ?_
      refine fV_iload_n (pc' := 38) G 2 dX4_setWord_37 rfl rfl rfl ?_
      refine fV_iload_n (pc' := 39) G 3 dX4_setWord_38 rfl rfl rfl ?_
      refine fV_iload_n (pc' := 40) G 4 dX4_setWord_39 rfl rfl rfl ?_
      obtain ⟨I5, eI5⟩ : ∃ J9 : fM, J9 = fup I4 215 (13 + 19 * w + what) v := ⟨_, rfl⟩
      refine fV_callVf (I' := I5) (st' := []) (n := 3) (k := 214) (K := 4) (As := [.int (i32 w), .int (i32 what), .int (i32 v)]) (rest := []) (pc' := 43) G (by rw [eI5]; exact mX4_set l Γ hN I4 P w (by omega) what (by omega) v) kcX4_setWord_81 (by omega) rfl rfl rfl rfl (Nat.le_of_ble_eq_true rfl) (Nat.zero_le _) (Nat.zero_le _) dX4_setWord_40 rfl rfl ?_
      refine fV_aload_n (pc' := 44) G 1 dX4_setWord_43 rfl rfl rfl ?_
      refine fV_iload_n (pc' := 45) G 2 dX4_setWord_44 rfl rfl rfl ?_
      obtain ⟨I6, eI6⟩ : ∃ J9 : fM, J9 = mOff I5 w := ⟨_, rfl⟩
      refine fV_callVf (I' := I6) (st' := []) (n := 1) (k := 214) (K := 4) (As := [.int (i32 w)]) (rest := []) (pc' := 48) G (by rw [eI6]; exact mX4_takeOff l Γ hN I5 P w (by omega)) kcX4_setWord_106 (by omega) rfl rfl rfl rfl (Nat.le_of_ble_eq_true rfl) (Nat.zero_le _) (Nat.zero_le _) dX4_setWord_45 rfl rfl ?_
      refine fV_iload (pc' := 50) G 0 dX4_setWord_48 rfl rfl ?_
      refine fV_iret G dX4_setWord_50 ?_
      exact fE_im (by unfold qMSet; rw [if_pos ⟨by omega, hal⟩]) (by unfold gMSet; rw [if_pos ⟨by omega, hal⟩, eI6, eI5, eI4]) rfl
    · have d3 : ¬ (((what : Int) = 0 ∧ 0 ≤ v ∧ v ≤ 2000) ∨ ((what : Int) = 1 ∧ 1 ≤ v ∧ v ≤ 60) ∨ ((what : Int) = 2 ∧ 0 ≤ v ∧ v ≤ 60) ∨ ((what : Int) = 3 ∧ 0 ≤ v ∧ v ≤ 4)) := of_decide_eq_false c3
      have hal := c3
      refine fV_bipush (n := -11) (pc' := 23) G dX4_setWord_21 rfl rfl ?_
      refine fV_iret G dX4_setWord_23 ?_
      exact fE_im (by unfold qMSet; rw [if_neg (by first | (intro z; omega) | (intro z; rw [hal] at z; cases z.2))]) (by unfold gMSet; rw [if_neg (by first | (intro z; omega) | (intro z; rw [hal] at z; cases z.2))]) rfl
set_option maxHeartbeats 4000000 in
set_option maxRecDepth 100000 in
theorem mX4_addShot (l : Launch) (Γ : fG) {N : Nat} (hN : 220 ≤ N) (I : fM) (P : fN) (ho : mOk I) (f : Int) (h_f : -2147483648 ≤ f ∧ f ≤ 2147483647) : fMet l yX4_addShot wsX4_addShot rmX4_addShot Γ N [.ref (Γ.1 214), .int (i32 f)] I P (fE (some (.int (i32 (qMAddShot I f)))) (gMAddShot I f) P) := by
  refine fMet_of (own := RX4) (cc := cX4_addShot) (maxL := 2) (ret := (some .int)) rfl (by decide +kernel) rfl (Nat.le_of_ble_eq_true rfl) ?_
  intro p e s m args below meth c G
  obtain ⟨hm, hwm, hth, hsm, hle⟩ := id ho
  obtain ⟨hm1, hm2, hm3, hm4⟩ := id hm
  have hsof : -19 ≤ qMShotOf I f ∧ qMShotOf I f ≤ 10 ∧ (qMShotOf I f ≠ -19 → 0 ≤ qMShotOf I f ∧ qMShotOf I f < I 215 1) := qMShotOf_b hm2
  refine fV_lv (lv' := [(0, .ref (Γ.1 214)), (1, .int (i32 f))]) [0, 1] rfl ?_
  refine fV_aload_n (pc' := 1) G 0 dX4_addShot_0 rfl rfl rfl ?_
  refine fV_iconst (pc' := 2) G dX4_addShot_1 rfl ?_
  refine fV_put (K := 4) (jj := 0) (x := 0) (v := .int (i32 0)) (ty := .int) (pc' := 5) G kfX4_addShot_26 (by omega) rfl rfl rfl kp4_0 rfl rfl (Nat.le_of_ble_eq_true rfl) dX4_addShot_2 rfl (fun I1 eI1 => ?_)
  refine fV_mem (I' := I) (P' := P) (by rw [eI1]; exact fup_id hth) rfl ?_
  refine fV_iload_n (pc' := 6) G 1 dX4_addShot_5 rfl rfl rfl ?_
  refine fV_i2l (pc' := 7) G dX4_addShot_6 rfl (by omega) ?_
  refine fV_lconst (v := 1) (pc' := 8) G dX4_addShot_7 rfl rfl ?_
  refine fV_ldc2 (a := 3000) (pc' := 11) G klX4_addShot_110 rfl dX4_addShot_8 rfl ?_
  refine fV_callSf (st' := [.int (i32 (fB (sBetw f 1 3000)))]) (n := 3) (As := [.long (i64 f), .long (i64 1), .long (i64 3000)]) (rest := []) (pc' := 14) G (mX4_in l Γ hN I P f 1 3000 (by omega) (by omega) (by omega)) kcX4_addShot_33 rfl rfl (Nat.le_of_ble_eq_true rfl) (Nat.zero_le _) (Nat.zero_le _) dX4_addShot_11 rfl rfl ?_
  refine fV_ifne_b (tgt := 20) (pc' := 17) G dX4_addShot_14 (by decide) rfl (fun c2 => ?_) (fun c2 => ?_)
  · have d2 : (1 ≤ f ∧ f ≤ 3000) := of_decide_eq_true c2
    refine fV_aload_n (pc' := 21) G 0 dX4_addShot_20 rfl rfl rfl ?_
    refine fV_iload_n (pc' := 22) G 1 dX4_addShot_21 rfl rfl rfl ?_
    refine fV_callVf (st' := [.int (i32 (qMShotOf I f))]) (n := 1) (k := 214) (K := 4) (As := [.int (i32 f)]) (rest := []) (pc' := 25) G (mX4_shotOf l Γ hN I P hm f (by omega)) kcX4_addShot_112 (by omega) rfl rfl rfl rfl (Nat.le_of_ble_eq_true rfl) (Nat.zero_le _) (Nat.zero_le _) dX4_addShot_22 rfl rfl ?_
    refine fV_bipush (n := -19) (pc' := 27) G dX4_addShot_25 rfl rfl ?_
    refine fV_icmp_eq (tgt := 33) (pc' := 30) G dX4_addShot_27 (by decide) rfl (by omega) (by decide) (fun c3 => ?_) (fun c3 => ?_)
    · refine fV_aload_n (pc' := 34) G 0 dX4_addShot_33 rfl rfl rfl ?_
      refine fV_get (K := 4) (v := .ref (Γ.1 215)) (pc' := 37) G kfX4_addShot_7 (by omega) rfl rfl rfl dX4_addShot_34 rfl ?_
      refine fV_iconst (pc' := 38) G dX4_addShot_37 rfl ?_
      refine fV_iald (K := 8) (n := 241) (pc' := 39) G (by omega) rfl (fun _ _ => rfl) (by decide) (by omega) dX4_addShot_38 rfl ?_
      refine fV_bipush (n := 10) (pc' := 41) G dX4_addShot_39 rfl rfl ?_
      refine fV_icmp_ne (tgt := 47) (pc' := 44) G dX4_addShot_41 (by decide) rfl (by omega) (by decide) (fun c4 => ?_) (fun c4 => ?_)
      · refine fV_aload_n (pc' := 48) G 0 dX4_addShot_47 rfl rfl rfl ?_
        obtain ⟨I5, eI5⟩ : ∃ J9 : fM, J9 = mAct I := ⟨_, rfl⟩
        refine fV_callVf (I' := I5) (st' := []) (n := 0) (k := 214) (K := 4) (As := []) (rest := []) (pc' := 51) G (by rw [eI5]; exact mX4_act l Γ hN I P (by first | exact hsm | omega)) kcX4_addShot_96 (by omega) rfl rfl rfl rfl (Nat.le_of_ble_eq_true rfl) (Nat.zero_le _) (Nat.zero_le _) dX4_addShot_48 rfl rfl ?_
        have hA : I5 215 = I 215 := by rw [eI5, mAct_o (by decide) (by decide)]
        refine fV_aload_n (pc' := 52) G 0 dX4_addShot_51 rfl rfl rfl ?_
        refine fV_iload_n (pc' := 53) G 1 dX4_addShot_52 rfl rfl rfl ?_
        have hm9 : mSv I5 := mSv_eq (fun b _ => by rw [hA]) hm
        obtain ⟨I6, eI6⟩ : ∃ J9 : fM, J9 = fup (fIns I5 215 3 (I5 215 1) (pIns (fun i => I5 215 (3 + i)) f (I5 215 1).toNat) f) 215 1 (I5 215 1 + 1) := ⟨_, rfl⟩
        refine fV_callVf (I' := I6) (st' := []) (n := 1) (k := 214) (K := 4) (As := [.int (i32 f)]) (rest := []) (pc' := 56) G (by rw [eI6]; exact mX4_makeShot l Γ hN I5 P hm9 (by rw [hA]; omega) f (by omega)) kcX4_addShot_115 (by omega) rfl rfl rfl rfl (Nat.le_of_ble_eq_true rfl) (Nat.zero_le _) (Nat.zero_le _) dX4_addShot_53 rfl rfl ?_
        refine fV_aload_n (pc' := 57) G 0 dX4_addShot_56 rfl rfl rfl ?_
        refine fV_get (K := 4) (v := .ref (Γ.1 215)) (pc' := 60) G kfX4_addShot_7 (by omega) rfl rfl rfl dX4_addShot_57 rfl ?_
        refine fV_iconst (pc' := 61) G dX4_addShot_60 rfl ?_
        refine fV_iald (K := 8) (n := 241) (pc' := 62) G (by omega) rfl (fun _ _ => rfl) (by decide) (by omega) dX4_addShot_61 rfl ?_
        refine fV_top (b := I 215 1 + 1) (by rw [eI6, fup_s, hA]) ?_
        refine fV_iret G dX4_addShot_62 ?_
        exact fE_im (by unfold qMAddShot; rw [if_pos (by omega), if_neg (by omega), if_neg (by omega)]) (by unfold gMAddShot; rw [if_pos ⟨by omega, by omega, by omega⟩, eI6, hA, eI5]) rfl
      · refine fV_bipush (n := -13) (pc' := 46) G dX4_addShot_44 rfl rfl ?_
        refine fV_iret G dX4_addShot_46 ?_
        exact fE_im (by unfold qMAddShot; (split <;> first | rfl | omega | (split <;> first | rfl | omega | (split <;> first | rfl | omega | (split <;> first | rfl | omega | (split <;> first | rfl | omega | (split <;> first | rfl | omega | (split <;> first | rfl | omega)))))))) (by unfold gMAddShot; rw [if_neg (by omega)]) rfl
    · refine fV_bipush (n := -12) (pc' := 32) G dX4_addShot_30 rfl rfl ?_
      refine fV_iret G dX4_addShot_32 ?_
      exact fE_im (by unfold qMAddShot; (split <;> first | rfl | omega | (split <;> first | rfl | omega | (split <;> first | rfl | omega | (split <;> first | rfl | omega | (split <;> first | rfl | omega | (split <;> first | rfl | omega | (split <;> first | rfl | omega)))))))) (by unfold gMAddShot; rw [if_neg (by omega)]) rfl
  · have d2 : ¬ (1 ≤ f ∧ f ≤ 3000) := of_decide_eq_false c2
    refine fV_bipush (n := -11) (pc' := 19) G dX4_addShot_17 rfl rfl ?_
    refine fV_iret G dX4_addShot_19 ?_
    exact fE_im (by unfold qMAddShot; (split <;> first | rfl | omega | (split <;> first | rfl | omega | (split <;> first | rfl | omega | (split <;> first | rfl | omega | (split <;> first | rfl | omega | (split <;> first | rfl | omega | (split <;> first | rfl | omega)))))))) (by unfold gMAddShot; rw [if_neg (by omega)]) rfl
set_option maxHeartbeats 4000000 in
set_option maxRecDepth 100000 in
theorem mX4_removeShot (l : Launch) (Γ : fG) {N : Nat} (hN : 220 ≤ N) (I : fM) (P : fN) (ho : mOk I) (f : Int) (h_f : -2147483648 ≤ f ∧ f ≤ 2147483647) : fMet l yX4_removeShot wsX4_removeShot rmX4_removeShot Γ N [.ref (Γ.1 214), .int (i32 f)] I P (fE (some (.int (i32 (qMRemShot I f)))) (gMRemShot I f) P) := by
  refine fMet_of (own := RX4) (cc := cX4_removeShot) (maxL := 4) (ret := (some .int)) rfl (by decide +kernel) rfl (Nat.le_of_ble_eq_true rfl) ?_
  intro p e s m args below meth c G
  obtain ⟨hm, hwm, hth, hsm, hle⟩ := id ho
  obtain ⟨hm1, hm2, hm3, hm4⟩ := id hm
  have hsof : -19 ≤ qMShotOf I f ∧ qMShotOf I f ≤ 10 ∧ (qMShotOf I f ≠ -19 → 0 ≤ qMShotOf I f ∧ qMShotOf I f < I 215 1) := qMShotOf_b hm2
  refine fV_lv (lv' := [(0, .ref (Γ.1 214)), (1, .int (i32 f))]) [0, 1] rfl ?_
  refine fV_aload_n (pc' := 1) G 0 dX4_removeShot_0 rfl rfl rfl ?_
  refine fV_iconst (pc' := 2) G dX4_removeShot_1 rfl ?_
  refine fV_put (K := 4) (jj := 0) (x := 0) (v := .int (i32 0)) (ty := .int) (pc' := 5) G kfX4_removeShot_26 (by omega) rfl rfl rfl kp4_0 rfl rfl (Nat.le_of_ble_eq_true rfl) dX4_removeShot_2 rfl (fun I1 eI1 => ?_)
  refine fV_mem (I' := I) (P' := P) (by rw [eI1]; exact fup_id hth) rfl ?_
  refine fV_iload_n (pc' := 6) G 1 dX4_removeShot_5 rfl rfl rfl ?_
  refine fV_i2l (pc' := 7) G dX4_removeShot_6 rfl (by omega) ?_
  refine fV_lconst (v := 1) (pc' := 8) G dX4_removeShot_7 rfl rfl ?_
  refine fV_ldc2 (a := 3000) (pc' := 11) G klX4_removeShot_110 rfl dX4_removeShot_8 rfl ?_
  refine fV_callSf (st' := [.int (i32 (fB (sBetw f 1 3000)))]) (n := 3) (As := [.long (i64 f), .long (i64 1), .long (i64 3000)]) (rest := []) (pc' := 14) G (mX4_in l Γ hN I P f 1 3000 (by omega) (by omega) (by omega)) kcX4_removeShot_33 rfl rfl (Nat.le_of_ble_eq_true rfl) (Nat.zero_le _) (Nat.zero_le _) dX4_removeShot_11 rfl rfl ?_
  refine fV_ifne_b (tgt := 20) (pc' := 17) G dX4_removeShot_14 (by decide) rfl (fun c2 => ?_) (fun c2 => ?_)
  · have d2 : (1 ≤ f ∧ f ≤ 3000) := of_decide_eq_true c2
    refine fV_aload_n (pc' := 21) G 0 dX4_removeShot_20 rfl rfl rfl ?_
    refine fV_iload_n (pc' := 22) G 1 dX4_removeShot_21 rfl rfl rfl ?_
    refine fV_callVf (st' := [.int (i32 (qMShotOf I f))]) (n := 1) (k := 214) (K := 4) (As := [.int (i32 f)]) (rest := []) (pc' := 25) G (mX4_shotOf l Γ hN I P hm f (by omega)) kcX4_removeShot_112 (by omega) rfl rfl rfl rfl (Nat.le_of_ble_eq_true rfl) (Nat.zero_le _) (Nat.zero_le _) dX4_removeShot_22 rfl rfl ?_
    refine fV_istore_n (lv' := [(2, .int (i32 (qMShotOf I f))), (0, .ref (Γ.1 214)), (1, .int (i32 f))]) (pc' := 26) G dX4_removeShot_25 rfl (by decide) rfl rfl ?_
    refine fV_iload_n (pc' := 27) G 0 dX4_removeShot_26 rfl rfl rfl ?_
    refine fV_bipush (n := -19) (pc' := 29) G dX4_removeShot_27 rfl rfl ?_
    refine fV_icmp_ne (tgt := 35) (pc' := 32) G dX4_removeShot_29 (by decide) rfl (by omega) (by decide) (fun c3 => ?_) (fun c3 => ?_)
    · refine fV_aload_n (pc' := 36) G 1 dX4_removeShot_35 rfl rfl rfl ?_
      obtain ⟨I4, eI4⟩ : ∃ J9 : fM, J9 = mAct I := ⟨_, rfl⟩
      refine fV_callVf (I' := I4) (st' := []) (n := 0) (k := 214) (K := 4) (As := []) (rest := []) (pc' := 39) G (by rw [eI4]; exact mX4_act l Γ hN I P (by first | exact hsm | omega)) kcX4_removeShot_96 (by omega) rfl rfl rfl rfl (Nat.le_of_ble_eq_true rfl) (Nat.zero_le _) (Nat.zero_le _) dX4_removeShot_36 rfl rfl ?_
      have hA : I4 215 = I 215 := by rw [eI4, mAct_o (by decide) (by decide)]
      refine fV_aload_n (pc' := 40) G 1 dX4_removeShot_39 rfl rfl rfl ?_
      refine fV_get (K := 4) (v := .ref (Γ.1 215)) (pc' := 43) G kfX4_removeShot_7 (by omega) rfl rfl rfl dX4_removeShot_40 rfl ?_
      refine fV_iconst (pc' := 44) G dX4_removeShot_43 rfl ?_
      refine fV_dup2 (pc' := 45) G dX4_removeShot_44 rfl rfl rfl ?_
      refine fV_iald (K := 8) (n := 241) (pc' := 46) G (by omega) rfl (fun _ _ => rfl) (by decide) (by omega) dX4_removeShot_45 rfl ?_
      refine fV_top (b := I 215 1) (by rw [hA]) ?_
      refine fV_iconst (pc' := 47) G dX4_removeShot_46 rfl ?_
      refine fV_isub (pc' := 48) G dX4_removeShot_47 rfl ?_
      refine fV_iast (K := 8) (n := 241) (pc' := 49) G (by omega) rfl (fun _ _ => rfl) (by decide) (by omega) dX4_removeShot_48 rfl (fun I5 eI5 => ?_)
      refine fV_iload_n (pc' := 50) G 0 dX4_removeShot_49 rfl rfl rfl ?_
      refine fV_istore_n (lv' := [(3, .int (i32 (qMShotOf I f))), (2, .int (i32 (qMShotOf I f))), (0, .ref (Γ.1 214)), (1, .int (i32 f))]) (pc' := 51) G dX4_removeShot_50 rfl (by decide) rfl rfl ?_
      have hM1 : I5 215 1 = I 215 1 - 1 := by rw [eI5, fup_s]
      have lp : ∀ (z : Nat) (i : Int) (J : fM), qMShotOf I f ≤ i ∧ i ≤ I 215 1 - 1 → J = fcpy I5 215 (3 + qMShotOf I f + 1) 215 (3 + qMShotOf I f) (i - qMShotOf I f) → ((I 215 1 - 1 - i).toNat) = z → fV p l e rmX4_removeShot s m args below meth c (MQ below (fQ Γ N (fE (some (.int (i32 (qMRemShot I f)))) (gMRemShot I f) P)) args s 0 0 (fA Γ N)) (fA Γ N) Γ N 4 0 0 J P 51 [(0, .ref (Γ.1 214)), (3, .int (i32 i))] [] := by
        intro z
        induction z using Nat.strongRecOn with
        | _ z ih_lp =>
          intro i J hi hJ hz_lp
          refine fV_iload_n (pc' := 52) G 1 dX4_removeShot_51 rfl rfl rfl ?_
          refine fV_aload_n (pc' := 53) G 0 dX4_removeShot_52 rfl rfl rfl ?_
          refine fV_get (K := 4) (v := .ref (Γ.1 215)) (pc' := 56) G kfX4_removeShot_7 (by omega) rfl rfl rfl dX4_removeShot_53 rfl ?_
          refine fV_iconst (pc' := 57) G dX4_removeShot_56 rfl ?_
          refine fV_iald (K := 8) (n := 241) (pc' := 58) G (by omega) rfl (fun _ _ => rfl) (by decide) (by omega) dX4_removeShot_57 rfl ?_
          refine fV_top (b := I 215 1 - 1) (by rw [hJ, fcpy_o (by omega), hM1]) ?_
          refine fV_icmp_ge (tgt := 85) (pc' := 61) G dX4_removeShot_58 (by decide) rfl (by omega) (by omega) (fun c106 => ?_) (fun c106 => ?_)
          · refine fV_aload_n (pc' := 86) G 0 dX4_removeShot_85 rfl rfl rfl ?_
            refine fV_get (K := 4) (v := .ref (Γ.1 215)) (pc' := 89) G kfX4_removeShot_7 (by omega) rfl rfl rfl dX4_removeShot_86 rfl ?_
            refine fV_iconst (pc' := 90) G dX4_removeShot_89 rfl ?_
            refine fV_iald (K := 8) (n := 241) (pc' := 91) G (by omega) rfl (fun _ _ => rfl) (by decide) (by omega) dX4_removeShot_90 rfl ?_
            refine fV_top (b := I 215 1 - 1) (by rw [hJ, fcpy_o (by omega), hM1]) ?_
            refine fV_iret G dX4_removeShot_91 ?_
            exact fE_im (by unfold qMRemShot; rw [if_pos (by omega), if_neg (by omega)]) (by unfold gMRemShot; rw [if_pos ⟨by omega, by omega⟩, hJ, show i = I 215 1 - 1 by omega, eI5, eI4]) rfl
          · refine fV_aload_n (pc' := 62) G 0 dX4_removeShot_61 rfl rfl rfl ?_
            refine fV_get (K := 4) (v := .ref (Γ.1 215)) (pc' := 65) G kfX4_removeShot_7 (by omega) rfl rfl rfl dX4_removeShot_62 rfl ?_
            refine fV_iconst (pc' := 66) G dX4_removeShot_65 rfl ?_
            refine fV_iload_n (pc' := 67) G 1 dX4_removeShot_66 rfl rfl rfl ?_
            refine fV_iadd (pc' := 68) G dX4_removeShot_67 rfl ?_
            refine fV_aload_n (pc' := 69) G 0 dX4_removeShot_68 rfl rfl rfl ?_
            refine fV_get (K := 4) (v := .ref (Γ.1 215)) (pc' := 72) G kfX4_removeShot_7 (by omega) rfl rfl rfl dX4_removeShot_69 rfl ?_
            refine fV_iconst (pc' := 73) G dX4_removeShot_72 rfl ?_
            refine fV_iload_n (pc' := 74) G 1 dX4_removeShot_73 rfl rfl rfl ?_
            refine fV_iadd (pc' := 75) G dX4_removeShot_74 rfl ?_
            refine fV_iconst (pc' := 76) G dX4_removeShot_75 rfl ?_
            refine fV_iadd (pc' := 77) G dX4_removeShot_76 rfl ?_
            refine fV_iald (K := 8) (n := 241) (pc' := 78) G (by omega) rfl (fun _ _ => rfl) (by decide) (by omega) dX4_removeShot_77 rfl ?_
            refine fV_iast (K := 8) (n := 241) (pc' := 79) G (by omega) rfl (fun _ _ => rfl) (by decide) (by omega) dX4_removeShot_78 rfl (fun I107 eI107 => ?_)
            refine fV_iinc (lv' := [(3, .int (i32 (i + 1))), (0, .ref (Γ.1 214))]) (pc' := 82) G 1 dX4_removeShot_79 rfl (by decide) rfl rfl ?_
            refine fV_goto (tgt := 51) G dX4_removeShot_82 (by decide) ?_
            refine fV_lv (lv' := [(0, .ref (Γ.1 214)), (3, .int (i32 (i + 1)))]) [1, 0] rfl ?_
            exact ih_lp _ (by omega) (i + 1) I107 (by omega) (by rw [eI107, hJ]; have e := fcpy_s (I := I5) (k1 := 215) (sp := 3 + qMShotOf I f + 1) (k2 := 215) (dp := 3 + qMShotOf I f) (n := i - qMShotOf I f) (Or.inr (by omega)) (by omega); rw [show 3 + qMShotOf I f + (i - qMShotOf I f) = 3 + i by omega, show 3 + qMShotOf I f + 1 + (i - qMShotOf I f) = 3 + i + 1 by omega] at e; rw [e, show i - qMShotOf I f + 1 = i + 1 - qMShotOf I f by omega]) rfl
      refine fV_lv (lv' := [(0, .ref (Γ.1 214)), (3, .int (i32 (qMShotOf I f)))]) [2, 0] rfl ?_
      exact lp _ (qMShotOf I f) I5 (by omega) (by rw [Int.sub_self]; exact (fcpy_0 _ _ _ _ _).symm) rfl
    · refine fV_bipush (n := -12) (pc' := 34) G dX4_removeShot_32 rfl rfl ?_
      refine fV_iret G dX4_removeShot_34 ?_
      exact fE_im (by unfold qMRemShot; (split <;> first | rfl | omega | (split <;> first | rfl | omega | (split <;> first | rfl | omega | (split <;> first | rfl | omega | (split <;> first | rfl | omega | (split <;> first | rfl | omega | (split <;> first | rfl | omega)))))))) (by unfold gMRemShot; rw [if_neg (by omega)]) rfl
  · have d2 : ¬ (1 ≤ f ∧ f ≤ 3000) := of_decide_eq_false c2
    refine fV_bipush (n := -11) (pc' := 19) G dX4_removeShot_17 rfl rfl ?_
    refine fV_iret G dX4_removeShot_19 ?_
    exact fE_im (by unfold qMRemShot; (split <;> first | rfl | omega | (split <;> first | rfl | omega | (split <;> first | rfl | omega | (split <;> first | rfl | omega | (split <;> first | rfl | omega | (split <;> first | rfl | omega | (split <;> first | rfl | omega)))))))) (by unfold gMRemShot; rw [if_neg (by omega)]) rfl
set_option maxHeartbeats 4000000 in
set_option maxRecDepth 100000 in
theorem mX4_setSpeed (l : Launch) (Γ : fG) {N : Nat} (hN : 220 ≤ N) (I : fM) (P : fN) (ho : mOk I) (x : Int) (h_x : -2147483648 ≤ x ∧ x ≤ 2147483647) : fMet l yX4_setSpeed wsX4_setSpeed rmX4_setSpeed Γ N [.ref (Γ.1 214), .int (i32 x)] I P (fE (some (.int (i32 (qMSpeed I x)))) (gMSpeed I x) P) := by
  refine fMet_of (own := RX4) (cc := cX4_setSpeed) (maxL := 3) (ret := (some .int)) rfl (by decide +kernel) rfl (Nat.le_of_ble_eq_true rfl) ?_
  intro p e s m args below meth c G
  obtain ⟨hm, hwm, hth, hsm, hle⟩ := id ho
  obtain ⟨hm1, hm2, hm3, hm4⟩ := id hm
  refine fV_lv (lv' := [(0, .ref (Γ.1 214)), (1, .int (i32 x))]) [0, 1] rfl ?_
  refine fV_aload_n (pc' := 1) G 0 dX4_setSpeed_0 rfl rfl rfl ?_
  refine fV_iconst (pc' := 2) G dX4_setSpeed_1 rfl ?_
  refine fV_put (K := 4) (jj := 0) (x := 0) (v := .int (i32 0)) (ty := .int) (pc' := 5) G kfX4_setSpeed_26 (by omega) rfl rfl rfl kp4_0 rfl rfl (Nat.le_of_ble_eq_true rfl) dX4_setSpeed_2 rfl (fun I1 eI1 => ?_)
  refine fV_mem (I' := I) (P' := P) (by rw [eI1]; exact fup_id hth) rfl ?_
  refine fV_iload_n (pc' := 6) G 1 dX4_setSpeed_5 rfl rfl rfl ?_
  refine fV_i2l (pc' := 7) G dX4_setSpeed_6 rfl (by omega) ?_
  refine fV_ldc2 (a := 50) (pc' := 10) G klX4_setSpeed_118 rfl dX4_setSpeed_7 rfl ?_
  refine fV_ldc2 (a := 400) (pc' := 13) G klX4_setSpeed_120 rfl dX4_setSpeed_10 rfl ?_
  refine fV_callSf (st' := [.int (i32 (fB (sBetw x 50 400)))]) (n := 3) (As := [.long (i64 x), .long (i64 50), .long (i64 400)]) (rest := []) (pc' := 16) G (mX4_in l Γ hN I P x 50 400 (by omega) (by omega) (by omega)) kcX4_setSpeed_33 rfl rfl (Nat.le_of_ble_eq_true rfl) (Nat.zero_le _) (Nat.zero_le _) dX4_setSpeed_13 rfl rfl ?_
  refine fV_ifne_b (tgt := 22) (pc' := 19) G dX4_setSpeed_16 (by decide) rfl (fun c2 => ?_) (fun c2 => ?_)
  · have d2 : (50 ≤ x ∧ x ≤ 400) := of_decide_eq_true c2
    refine fV_aload_n (pc' := 23) G 0 dX4_setSpeed_22 rfl rfl rfl ?_
    obtain ⟨I3, eI3⟩ : ∃ J9 : fM, J9 = mAct I := ⟨_, rfl⟩
    refine fV_callVf (I' := I3) (st' := []) (n := 0) (k := 214) (K := 4) (As := []) (rest := []) (pc' := 26) G (by rw [eI3]; exact mX4_act l Γ hN I P (by first | exact hsm | omega)) kcX4_setSpeed_96 (by omega) rfl rfl rfl rfl (Nat.le_of_ble_eq_true rfl) (Nat.zero_le _) (Nat.zero_le _) dX4_setSpeed_23 rfl rfl ?_
    have hA : I3 215 = I 215 := by rw [eI3, mAct_o (by decide) (by decide)]
    refine fV_aload_n (pc' := 27) G 0 dX4_setSpeed_26 rfl rfl rfl ?_
    refine fV_get (K := 4) (v := .ref (Γ.1 215)) (pc' := 30) G kfX4_setSpeed_7 (by omega) rfl rfl rfl dX4_setSpeed_27 rfl ?_
    refine fV_iconst (pc' := 31) G dX4_setSpeed_30 rfl ?_
    refine fV_iald (K := 8) (n := 241) (pc' := 32) G (by omega) rfl (fun _ _ => rfl) (by decide) (by omega) dX4_setSpeed_31 rfl ?_
    refine fV_top (b := I 215 2) (by rw [hA]) ?_
    refine fV_istore_n (lv' := [(2, .int (i32 (I 215 2))), (0, .ref (Γ.1 214)), (1, .int (i32 x))]) (pc' := 33) G dX4_setSpeed_32 rfl (by decide) rfl rfl ?_
    refine fV_aload_n (pc' := 34) G 1 dX4_setSpeed_33 rfl rfl rfl ?_
    refine fV_get (K := 4) (v := .ref (Γ.1 215)) (pc' := 37) G kfX4_setSpeed_7 (by omega) rfl rfl rfl dX4_setSpeed_34 rfl ?_
    refine fV_iconst (pc' := 38) G dX4_setSpeed_37 rfl ?_
    refine fV_iload_n (pc' := 39) G 2 dX4_setSpeed_38 rfl rfl rfl ?_
    refine fV_iast (K := 8) (n := 241) (pc' := 40) G (by omega) rfl (fun _ _ => rfl) (by decide) (by omega) dX4_setSpeed_39 rfl (fun I4 eI4 => ?_)
    refine fV_iload_n (pc' := 41) G 0 dX4_setSpeed_40 rfl rfl rfl ?_
    refine fV_iret G dX4_setSpeed_41 ?_
    exact fE_im (by unfold qMSpeed; rw [if_pos (by omega)]) (by unfold gMSpeed; rw [if_pos (by omega), eI4, eI3]) rfl
  · have d2 : ¬ (50 ≤ x ∧ x ≤ 400) := of_decide_eq_false c2
    refine fV_bipush (n := -11) (pc' := 21) G dX4_setSpeed_19 rfl rfl ?_
    refine fV_iret G dX4_setSpeed_21 ?_
    exact fE_im (by unfold qMSpeed; rw [if_neg (by omega)]) (by unfold gMSpeed; rw [if_neg (by omega)]) rfl
set_option maxHeartbeats 4000000 in
set_option maxRecDepth 100000 in
theorem mX4_append (l : Launch) (Γ : fG) {N : Nat} (hN : 220 ≤ N) (I : fM) (P : fN) (ho : mOk I) (x : Int) (h_x : -2147483648 ≤ x ∧ x ≤ 2147483647) : fMet l yX4_append wsX4_append rmX4_append Γ N [.ref (Γ.1 214), .int (i32 x)] I P (fE (some (.int (i32 (qMApp I x)))) (gMApp I x) P) := by
  refine fMet_of (own := RX4) (cc := cX4_append) (maxL := 2) (ret := (some .int)) rfl (by decide +kernel) rfl (Nat.le_of_ble_eq_true rfl) ?_
  intro p e s m args below meth c G
  obtain ⟨hm, hwm, hth, hsm, hle⟩ := id ho
  obtain ⟨hm1, hm2, hm3, hm4⟩ := id hm
  refine fV_lv (lv' := [(0, .ref (Γ.1 214)), (1, .int (i32 x))]) [0, 1] rfl ?_
  refine fV_aload_n (pc' := 1) G 0 dX4_append_0 rfl rfl rfl ?_
  refine fV_iconst (pc' := 2) G dX4_append_1 rfl ?_
  refine fV_put (K := 4) (jj := 0) (x := 0) (v := .int (i32 0)) (ty := .int) (pc' := 5) G kfX4_append_26 (by omega) rfl rfl rfl kp4_0 rfl rfl (Nat.le_of_ble_eq_true rfl) dX4_append_2 rfl (fun I1 eI1 => ?_)
  refine fV_mem (I' := I) (P' := P) (by rw [eI1]; exact fup_id hth) rfl ?_
  refine fV_iload_n (pc' := 6) G 1 dX4_append_5 rfl rfl rfl ?_
  refine fV_i2l (pc' := 7) G dX4_append_6 rfl (by omega) ?_
  refine fV_lconst (v := 1) (pc' := 8) G dX4_append_7 rfl rfl ?_
  refine fV_ldc2 (a := 255) (pc' := 11) G klX4_append_122 rfl dX4_append_8 rfl ?_
  refine fV_callSf (st' := [.int (i32 (fB (sBetw x 1 255)))]) (n := 3) (As := [.long (i64 x), .long (i64 1), .long (i64 255)]) (rest := []) (pc' := 14) G (mX4_in l Γ hN I P x 1 255 (by omega) (by omega) (by omega)) kcX4_append_33 rfl rfl (Nat.le_of_ble_eq_true rfl) (Nat.zero_le _) (Nat.zero_le _) dX4_append_11 rfl rfl ?_
  refine fV_ifne_b (tgt := 20) (pc' := 17) G dX4_append_14 (by decide) rfl (fun c2 => ?_) (fun c2 => ?_)
  · have d2 : (1 ≤ x ∧ x ≤ 255) := of_decide_eq_true c2
    refine fV_aload_n (pc' := 21) G 0 dX4_append_20 rfl rfl rfl ?_
    refine fV_get (K := 4) (v := .int (i32 (I 214 6))) (pc' := 24) G kfX4_append_124 (by omega) rfl rfl rfl dX4_append_21 rfl ?_
    refine fV_sipush (n := 160) (pc' := 27) G dX4_append_24 rfl rfl ?_
    refine fV_icmp_ne (tgt := 33) (pc' := 30) G dX4_append_27 (by decide) rfl (by omega) (by decide) (fun c3 => ?_) (fun c3 => ?_)
    · refine fV_aload_n (pc' := 34) G 0 dX4_append_33 rfl rfl rfl ?_
      refine fV_get (K := 4) (v := .ref (Γ.1 218)) (pc' := 37) G kfX4_append_19 (by omega) rfl rfl rfl dX4_append_34 rfl ?_
      refine fV_aload_n (pc' := 38) G 0 dX4_append_37 rfl rfl rfl ?_
      refine fV_get (K := 4) (v := .int (i32 (I 214 6))) (pc' := 41) G kfX4_append_124 (by omega) rfl rfl rfl dX4_append_38 rfl ?_
      refine fV_iload_n (pc' := 42) G 1 dX4_append_41 rfl rfl rfl ?_
      refine fV_iast (K := 7) (n := 160) (pc' := 43) G (by omega) rfl (fun _ _ => rfl) (by decide) (by omega) dX4_append_42 rfl (fun I4 eI4 => ?_)
      refine fV_aload_n (pc' := 44) G 0 dX4_append_43 rfl rfl rfl ?_
      refine fV_dup (pc' := 45) G dX4_append_44 rfl rfl ?_
      refine fV_get (K := 4) (v := .int (i32 (I4 214 6))) (pc' := 48) G kfX4_append_124 (by omega) rfl rfl rfl dX4_append_45 rfl ?_
      refine fV_top (b := I 214 6) (by rw [eI4, fup_k (by decide)]) ?_
      refine fV_iconst (pc' := 49) G dX4_append_48 rfl ?_
      refine fV_iadd (pc' := 50) G dX4_append_49 rfl ?_
      refine fV_put (K := 4) (jj := 6) (x := (I 214 6) + 1) (v := .int (i32 ((I 214 6) + 1))) (ty := .int) (pc' := 53) G kfX4_append_124 (by omega) rfl rfl rfl kp4_6 rfl rfl (Nat.le_of_ble_eq_true rfl) dX4_append_50 rfl (fun I5 eI5 => ?_)
      refine fV_aload_n (pc' := 54) G 0 dX4_append_53 rfl rfl rfl ?_
      refine fV_get (K := 4) (v := .int (i32 (I5 214 6))) (pc' := 57) G kfX4_append_124 (by omega) rfl rfl rfl dX4_append_54 rfl ?_
      refine fV_top (b := I 214 6 + 1) (by rw [eI5, fup_s]) ?_
      refine fV_iret G dX4_append_57 ?_
      exact fE_im (by unfold qMApp; rw [if_pos (by omega), if_neg (by omega)]) (by unfold gMApp; rw [if_pos ⟨by omega, by omega⟩, eI5, eI4]) rfl
    · refine fV_bipush (n := -13) (pc' := 32) G dX4_append_30 rfl rfl ?_
      refine fV_iret G dX4_append_32 ?_
      exact fE_im (by unfold qMApp; (split <;> first | rfl | omega | (split <;> first | rfl | omega | (split <;> first | rfl | omega | (split <;> first | rfl | omega | (split <;> first | rfl | omega | (split <;> first | rfl | omega | (split <;> first | rfl | omega)))))))) (by unfold gMApp; rw [if_neg (by omega)]) rfl
  · have d2 : ¬ (1 ≤ x ∧ x ≤ 255) := of_decide_eq_false c2
    refine fV_bipush (n := -11) (pc' := 19) G dX4_append_17 rfl rfl ?_
    refine fV_iret G dX4_append_19 ?_
    exact fE_im (by unfold qMApp; (split <;> first | rfl | omega | (split <;> first | rfl | omega | (split <;> first | rfl | omega | (split <;> first | rfl | omega | (split <;> first | rfl | omega | (split <;> first | rfl | omega | (split <;> first | rfl | omega)))))))) (by unfold gMApp; rw [if_neg (by omega)]) rfl
set_option maxHeartbeats 4000000 in
set_option maxRecDepth 100000 in
theorem mX4_clearText (l : Launch) (Γ : fG) {N : Nat} (hN : 220 ≤ N) (I : fM) (P : fN) (ho : mOk I) : fMet l yX4_clearText wsX4_clearText rmX4_clearText Γ N [.ref (Γ.1 214)] I P (fE (some (.int (i32 (I 214 6)))) (fup I 214 6 0) P) := by
  refine fMet_of (own := RX4) (cc := cX4_clearText) (maxL := 2) (ret := (some .int)) rfl (by decide +kernel) rfl (Nat.le_of_ble_eq_true rfl) ?_
  intro p e s m args below meth c G
  obtain ⟨hm, hwm, hth, hsm, hle⟩ := id ho
  obtain ⟨hm1, hm2, hm3, hm4⟩ := id hm
  refine fV_lv (lv' := [(0, .ref (Γ.1 214))]) [0] rfl ?_
  refine fV_aload_n (pc' := 1) G 0 dX4_clearText_0 rfl rfl rfl ?_
  refine fV_iconst (pc' := 2) G dX4_clearText_1 rfl ?_
  refine fV_put (K := 4) (jj := 0) (x := 0) (v := .int (i32 0)) (ty := .int) (pc' := 5) G kfX4_clearText_26 (by omega) rfl rfl rfl kp4_0 rfl rfl (Nat.le_of_ble_eq_true rfl) dX4_clearText_2 rfl (fun I1 eI1 => ?_)
  refine fV_mem (I' := I) (P' := P) (by rw [eI1]; exact fup_id hth) rfl ?_
  refine fV_aload_n (pc' := 6) G 0 dX4_clearText_5 rfl rfl rfl ?_
  refine fV_get (K := 4) (v := .int (i32 (I 214 6))) (pc' := 9) G kfX4_clearText_124 (by omega) rfl rfl rfl dX4_clearText_6 rfl ?_
  refine fV_istore_n (lv' := [(1, .int (i32 (I 214 6))), (0, .ref (Γ.1 214))]) (pc' := 10) G dX4_clearText_9 rfl (by decide) rfl rfl ?_
  refine fV_aload_n (pc' := 11) G 1 dX4_clearText_10 rfl rfl rfl ?_
  refine fV_iconst (pc' := 12) G dX4_clearText_11 rfl ?_
  refine fV_put (K := 4) (jj := 6) (x := 0) (v := .int (i32 0)) (ty := .int) (pc' := 15) G kfX4_clearText_124 (by omega) rfl rfl rfl kp4_6 rfl rfl (Nat.le_of_ble_eq_true rfl) dX4_clearText_12 rfl (fun I2 eI2 => ?_)
  refine fV_iload_n (pc' := 16) G 0 dX4_clearText_15 rfl rfl rfl ?_
  refine fV_iret G dX4_clearText_16 ?_
  exact fE_im rfl (by rw [eI2]) rfl
set_option maxHeartbeats 4000000 in
set_option maxRecDepth 100000 in
theorem mX4_undo (l : Launch) (Γ : fG) {N : Nat} (hN : 220 ≤ N) (I : fM) (P : fN) (ho : mOk I) : fMet l yX4_undo wsX4_undo rmX4_undo Γ N [.ref (Γ.1 214)] I P (fE (some (.int (i32 (qMUndo I)))) (gMUndo I) P) := by
  refine fMet_of (own := RX4) (cc := cX4_undo) (maxL := 2) (ret := (some .int)) rfl (by decide +kernel) rfl (Nat.le_of_ble_eq_true rfl) ?_
  intro p e s m args below meth c G
  obtain ⟨hm, hwm, hth, hsm, hle⟩ := id ho
  obtain ⟨hm1, hm2, hm3, hm4⟩ := id hm
  refine fV_lv (lv' := [(0, .ref (Γ.1 214))]) [0] rfl ?_
  refine fV_aload_n (pc' := 1) G 0 dX4_undo_0 rfl rfl rfl ?_
  refine fV_iconst (pc' := 2) G dX4_undo_1 rfl ?_
  refine fV_put (K := 4) (jj := 0) (x := 0) (v := .int (i32 0)) (ty := .int) (pc' := 5) G kfX4_undo_26 (by omega) rfl rfl rfl kp4_0 rfl rfl (Nat.le_of_ble_eq_true rfl) dX4_undo_2 rfl (fun I1 eI1 => ?_)
  refine fV_mem (I' := I) (P' := P) (by rw [eI1]; exact fup_id hth) rfl ?_
  refine fV_aload_n (pc' := 6) G 0 dX4_undo_5 rfl rfl rfl ?_
  refine fV_get (K := 4) (v := .int (i32 (I 214 4))) (pc' := 9) G kfX4_undo_30 (by omega) rfl rfl rfl dX4_undo_6 rfl ?_
  refine fV_if_ne (tgt := 15) (pc' := 12) G dX4_undo_9 (by decide) rfl (by omega) (fun c2 => ?_) (fun c2 => ?_)
  · refine fV_aload_n (pc' := 16) G 0 dX4_undo_15 rfl rfl rfl ?_
    refine fV_dup (pc' := 17) G dX4_undo_16 rfl rfl ?_
    refine fV_get (K := 4) (v := .int (i32 (I 214 4))) (pc' := 20) G kfX4_undo_30 (by omega) rfl rfl rfl dX4_undo_17 rfl ?_
    refine fV_iconst (pc' := 21) G dX4_undo_20 rfl ?_
    refine fV_isub (pc' := 22) G dX4_undo_21 rfl ?_
    refine fV_put (K := 4) (jj := 4) (x := (I 214 4) - 1) (v := .int (i32 ((I 214 4) - 1))) (ty := .int) (pc' := 25) G kfX4_undo_30 (by omega) rfl rfl rfl kp4_4 rfl rfl (Nat.le_of_ble_eq_true rfl) dX4_undo_22 rfl (fun I3 eI3 => ?_)
    refine fV_iconst (pc' := 26) G dX4_undo_25 rfl ?_
    refine fV_istore_n (lv' := [(1, .int (i32 0)), (0, .ref (Γ.1 214))]) (pc' := 27) G dX4_undo_26 rfl (by decide) rfl rfl ?_
    have hM4 : I3 214 4 = I 214 4 - 1 := by rw [eI3, fup_s]
    have lp : ∀ (z : Nat) (i : Int) (J : fM), 0 ≤ i ∧ i ≤ 241 → J = fcpy I3 217 (241 * (I 214 4 - 1)) 215 0 i → ((241 - i).toNat) = z → fV p l e rmX4_undo s m args below meth c (MQ below (fQ Γ N (fE (some (.int (i32 (qMUndo I)))) (gMUndo I) P)) args s 0 0 (fA Γ N)) (fA Γ N) Γ N 2 0 0 J P 27 [(0, .ref (Γ.1 214)), (1, .int (i32 i))] [] := by
      intro z
      induction z using Nat.strongRecOn with
      | _ z ih_lp =>
        intro i J hi hJ hz_lp
        refine fV_iload_n (pc' := 28) G 1 dX4_undo_27 rfl rfl rfl ?_
        refine fV_sipush (n := 241) (pc' := 31) G dX4_undo_28 rfl rfl ?_
        refine fV_icmp_ge (tgt := 61) (pc' := 34) G dX4_undo_31 (by decide) rfl (by omega) (by decide) (fun c104 => ?_) (fun c104 => ?_)
        · refine fV_aload_n (pc' := 62) G 0 dX4_undo_61 rfl rfl rfl ?_
          refine fV_get (K := 4) (v := .int (i32 (J 214 4))) (pc' := 65) G kfX4_undo_30 (by omega) rfl rfl rfl dX4_undo_62 rfl ?_
          refine fV_top (b := I 214 4 - 1) (by rw [hJ, fcpy_k (by decide), hM4]) ?_
          refine fV_iret G dX4_undo_65 ?_
          exact fE_im (by unfold qMUndo; rw [if_neg (by omega)]) (by unfold gMUndo; rw [if_neg (by omega), hJ, show i = 241 by omega, eI3]) rfl
        · refine fV_aload_n (pc' := 35) G 0 dX4_undo_34 rfl rfl rfl ?_
          refine fV_get (K := 4) (v := .ref (Γ.1 215)) (pc' := 38) G kfX4_undo_7 (by omega) rfl rfl rfl dX4_undo_35 rfl ?_
          refine fV_iload_n (pc' := 39) G 1 dX4_undo_38 rfl rfl rfl ?_
          refine fV_aload_n (pc' := 40) G 0 dX4_undo_39 rfl rfl rfl ?_
          refine fV_get (K := 4) (v := .ref (Γ.1 217)) (pc' := 43) G kfX4_undo_16 (by omega) rfl rfl rfl dX4_undo_40 rfl ?_
          refine fV_sipush (n := 241) (pc' := 46) G dX4_undo_43 rfl rfl ?_
          refine fV_aload_n (pc' := 47) G 0 dX4_undo_46 rfl rfl rfl ?_
          refine fV_get (K := 4) (v := .int (i32 (J 214 4))) (pc' := 50) G kfX4_undo_30 (by omega) rfl rfl rfl dX4_undo_47 rfl ?_
          refine fV_top (b := I 214 4 - 1) (by rw [hJ, fcpy_k (by decide), hM4]) ?_
          refine fV_imul (pc' := 51) G dX4_undo_50 rfl ?_
          refine fV_iload_n (pc' := 52) G 1 dX4_undo_51 rfl rfl rfl ?_
          refine fV_iadd (pc' := 53) G dX4_undo_52 rfl ?_
          refine fV_iald (K := 9) (n := 1205) (pc' := 54) G (by omega) rfl (fun _ _ => rfl) (by decide) (by omega) dX4_undo_53 rfl ?_
          refine fV_iast (K := 8) (n := 241) (pc' := 55) G (by omega) rfl (fun _ _ => rfl) (by decide) (by omega) dX4_undo_54 rfl (fun I105 eI105 => ?_)
          refine fV_iinc (lv' := [(1, .int (i32 (i + 1))), (0, .ref (Γ.1 214))]) (pc' := 58) G 1 dX4_undo_55 rfl (by decide) rfl rfl ?_
          refine fV_goto (tgt := 27) G dX4_undo_58 (by decide) ?_
          refine fV_lv (lv' := [(0, .ref (Γ.1 214)), (1, .int (i32 (i + 1)))]) [1, 0] rfl ?_
          exact ih_lp _ (by omega) (i + 1) I105 (by omega) (by rw [eI105, hJ, ← fcpy_s (n := i) (Or.inl (by decide)) (by omega)]; simp only [Int.zero_add]) rfl
    refine fV_lv (lv' := [(0, .ref (Γ.1 214)), (1, .int (i32 0))]) [1, 0] rfl ?_
    exact lp _ 0 I3 (by omega) ((fcpy_0 _ _ _ _ _).symm) rfl
  · refine fV_bipush (n := -12) (pc' := 14) G dX4_undo_12 rfl rfl ?_
    refine fV_iret G dX4_undo_14 ?_
    exact fE_im (by unfold qMUndo; rw [if_pos (by omega)]) (by unfold gMUndo; rw [if_pos (by omega)]) rfl
set_option maxHeartbeats 4000000 in
set_option maxRecDepth 100000 in
theorem mX4_take (l : Launch) (Γ : fG) {N : Nat} (hN : 220 ≤ N) (I : fM) (P : fN) (ho : mOk I) (w : Int) (h_w : -2147483648 ≤ w ∧ w ≤ 2147483647) : fMet l yX4_take wsX4_take rmX4_take Γ N [.ref (Γ.1 214), .int (i32 w)] I P (fE (some (.int (i32 (qMTake I w)))) (gMTake I w) P) := by
  refine fMet_of (own := RX4) (cc := cX4_take) (maxL := 2) (ret := (some .int)) rfl (by decide +kernel) rfl (Nat.le_of_ble_eq_true rfl) ?_
  intro p e s m args below meth c G
  obtain ⟨hm, hwm, hth, hsm, hle⟩ := id ho
  obtain ⟨hm1, hm2, hm3, hm4⟩ := id hm
  refine fV_lv (lv' := [(0, .ref (Γ.1 214)), (1, .int (i32 w))]) [0, 1] rfl ?_
  refine fV_aload_n (pc' := 1) G 0 dX4_take_0 rfl rfl rfl ?_
  refine fV_iconst (pc' := 2) G dX4_take_1 rfl ?_
  refine fV_put (K := 4) (jj := 0) (x := 0) (v := .int (i32 0)) (ty := .int) (pc' := 5) G kfX4_take_26 (by omega) rfl rfl rfl kp4_0 rfl rfl (Nat.le_of_ble_eq_true rfl) dX4_take_2 rfl (fun I1 eI1 => ?_)
  refine fV_mem (I' := I) (P' := P) (by rw [eI1]; exact fup_id hth) rfl ?_
  refine fV_aload_n (pc' := 6) G 0 dX4_take_5 rfl rfl rfl ?_
  refine fV_iload_n (pc' := 7) G 1 dX4_take_6 rfl rfl rfl ?_
  refine fV_callVf (st' := [.int (i32 (fB (decide (0 ≤ w ∧ w < I 215 0))))]) (n := 1) (k := 214) (K := 4) (As := [.int (i32 w)]) (rest := []) (pc' := 10) G (mX4_isWord l Γ hN I P hm1 w (by omega)) kcX4_take_103 (by omega) rfl rfl rfl rfl (Nat.le_of_ble_eq_true rfl) (Nat.zero_le _) (Nat.zero_le _) dX4_take_7 rfl rfl ?_
  refine fV_ifne_b (tgt := 16) (pc' := 13) G dX4_take_10 (by decide) rfl (fun c2 => ?_) (fun c2 => ?_)
  · have d2 : (0 ≤ w ∧ w < I 215 0) := of_decide_eq_true c2
    refine fV_aload_n (pc' := 17) G 0 dX4_take_16 rfl rfl rfl ?_
    refine fV_iload_n (pc' := 18) G 1 dX4_take_17 rfl rfl rfl ?_
    refine fV_callVf (st' := [.int (i32 (fB (decide (I 215 (13 + 19 * w + 4) ≠ -1))))]) (n := 1) (k := 214) (K := 4) (As := [.int (i32 w)]) (rest := []) (pc' := 21) G (mX4_isPut l Γ hN I P w (by omega) ((hwm _ (by omega) (by omega)).2.2.2.2.2.1)) kcX4_take_41 (by omega) rfl rfl rfl rfl (Nat.le_of_ble_eq_true rfl) (Nat.zero_le _) (Nat.zero_le _) dX4_take_18 rfl rfl ?_
    refine fV_ifne_b (tgt := 27) (pc' := 24) G dX4_take_21 (by decide) rfl (fun c3 => ?_) (fun c3 => ?_)
    · have d3 : (I 215 (13 + 19 * w + 4) ≠ -1) := of_decide_eq_true c3
      refine fV_aload_n (pc' := 28) G 0 dX4_take_27 rfl rfl rfl ?_
      obtain ⟨I4, eI4⟩ : ∃ J9 : fM, J9 = mAct I := ⟨_, rfl⟩
      refine fV_callVf (I' := I4) (st' := []) (n := 0) (k := 214) (K := 4) (As := []) (rest := []) (pc' := 31) G (by rw [eI4]; exact mX4_act l Γ hN I P (by first | exact hsm | omega)) kcX4_take_96 (by omega) rfl rfl rfl rfl (Nat.le_of_ble_eq_true rfl) (Nat.zero_le _) (Nat.zero_le _) dX4_take_28 rfl rfl ?_
      have hA : I4 215 = I 215 := by rw [eI4, mAct_o (by decide) (by decide)]
      refine fV_aload_n (pc' := 32) G 0 dX4_take_31 rfl rfl rfl ?_
      refine fV_iload_n (pc' := 33) G 1 dX4_take_32 rfl rfl rfl ?_
      obtain ⟨I5, eI5⟩ : ∃ J9 : fM, J9 = mOff I4 w := ⟨_, rfl⟩
      refine fV_callVf (I' := I5) (st' := []) (n := 1) (k := 214) (K := 4) (As := [.int (i32 w)]) (rest := []) (pc' := 36) G (by rw [eI5]; exact mX4_takeOff l Γ hN I4 P w (by omega)) kcX4_take_106 (by omega) rfl rfl rfl rfl (Nat.le_of_ble_eq_true rfl) (Nat.zero_le _) (Nat.zero_le _) dX4_take_33 rfl rfl ?_
      have hr9 : I5 215 = mOff I w 215 := by rw [eI5]; exact mOff_r hA
      have hm9 : mSv I5 := mSv_eq (fun b hb => by rw [hr9]; exact mOff_lo (by omega) hb) hm
      have hn9 : I5 215 0 = I 215 0 := by rw [hr9]; exact mOff_lo (by omega) (by decide)
      have hwm9 : ∀ v : Int, 0 ≤ v → v < I5 215 0 → mWv (mR I5 v) := by rw [hn9]; exact mWv_r hr9 (mOff_wv (by omega) hwm)
      refine fV_aload_n (pc' := 37) G 0 dX4_take_36 rfl rfl rfl ?_
      refine fV_callVf (st' := [.int (i32 (mCnt (I5 215)))]) (n := 0) (k := 214) (K := 4) (As := []) (rest := []) (pc' := 40) G (mX4_putMany l Γ hN I5 P hm9 hwm9) kcX4_take_211 (by omega) rfl rfl rfl rfl (Nat.le_of_ble_eq_true rfl) (Nat.zero_le _) (Nat.zero_le _) dX4_take_37 rfl rfl ?_
      refine fV_iret G dX4_take_40 ?_
      exact fE_im (by unfold qMTake; rw [if_pos (by omega), if_neg (by omega), hr9]) (by unfold gMTake; rw [if_pos ⟨by omega, by omega⟩, eI5, eI4]) rfl
    · have d3 : ¬ (I 215 (13 + 19 * w + 4) ≠ -1) := of_decide_eq_false c3
      refine fV_bipush (n := -12) (pc' := 26) G dX4_take_24 rfl rfl ?_
      refine fV_iret G dX4_take_26 ?_
      exact fE_im (by unfold qMTake; (split <;> first | rfl | omega | (split <;> first | rfl | omega | (split <;> first | rfl | omega | (split <;> first | rfl | omega | (split <;> first | rfl | omega | (split <;> first | rfl | omega | (split <;> first | rfl | omega)))))))) (by unfold gMTake; rw [if_neg (by omega)]) rfl
  · have d2 : ¬ (0 ≤ w ∧ w < I 215 0) := of_decide_eq_false c2
    refine fV_bipush (n := -11) (pc' := 15) G dX4_take_13 rfl rfl ?_
    refine fV_iret G dX4_take_15 ?_
    exact fE_im (by unfold qMTake; (split <;> first | rfl | omega | (split <;> first | rfl | omega | (split <;> first | rfl | omega | (split <;> first | rfl | omega | (split <;> first | rfl | omega | (split <;> first | rfl | omega | (split <;> first | rfl | omega)))))))) (by unfold gMTake; rw [if_neg (by omega)]) rfl
