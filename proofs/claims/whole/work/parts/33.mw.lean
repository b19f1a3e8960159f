/-! CONTRACTS 8: the reference's writes (rows laid by wip/whole/gen/con8.py) -/
set_option maxHeartbeats 4000000 in
set_option maxRecDepth 100000 in
theorem mX4_hold (l : Launch) (Γ : fG) {N : Nat} (hN : 220 ≤ N) (I : fM) (P : fN)  : fMet l yX4_hold wsX4_hold rmX4_hold Γ N [.ref (Γ.1 214)] I P (fE none (fcpy I 215 0 216 0 241) P) := by
  refine fMet_of (own := RX4) (cc := cX4_hold) (maxL := 2) (ret := none) rfl (by decide +kernel) rfl (Nat.le_of_ble_eq_true rfl) ?_
  intro p e s m args below meth c G
  refine fV_lv (lv' := [(0, .ref (Γ.1 214))]) [0] rfl ?_
  refine fV_iconst (pc' := 1) G dX4_hold_0 rfl ?_
  refine fV_istore_n (lv' := [(1, .int (i32 0)), (0, .ref (Γ.1 214))]) (pc' := 2) G dX4_hold_1 rfl (by decide) rfl rfl ?_
  have lp : ∀ (z : Nat) (i : Int) (J : fM), 0 ≤ i ∧ i ≤ 241 → J = fcpy I 215 0 216 0 i → ((241 - i).toNat) = z → fV p l e rmX4_hold s m args below meth c (MQ below (fQ Γ N (fE none (fcpy I 215 0 216 0 241) P)) args s 0 0 (fA Γ N)) (fA Γ N) Γ N 2 0 0 J P 2 [(0, .ref (Γ.1 214)), (1, .int (i32 i))] [] := by
    intro z
    induction z using Nat.strongRecOn with
    | _ z ih_lp =>
      intro i J hi hJ hz_lp
      refine fV_iload_n (pc' := 3) G 1 dX4_hold_2 rfl rfl rfl ?_
      refine fV_sipush (n := 241) (pc' := 6) G dX4_hold_3 rfl rfl ?_
      refine fV_icmp_ge (tgt := 27) (pc' := 9) G dX4_hold_6 (by decide) rfl (by omega) (by decide) (fun c101 => ?_) (fun c101 => ?_)
      · refine fV_vret G dX4_hold_27 ?_
        exact fE_vm (by rw [hJ, show i = 241 by omega]) rfl
      · refine fV_aload_n (pc' := 10) G 0 dX4_hold_9 rfl rfl rfl ?_
        refine fV_get (K := 4) (v := .ref (Γ.1 216)) (pc' := 13) G kfX4_hold_13 (by omega) rfl rfl rfl dX4_hold_10 rfl ?_
        refine fV_iload_n (pc' := 14) G 1 dX4_hold_13 rfl rfl rfl ?_
        refine fV_aload_n (pc' := 15) G 0 dX4_hold_14 rfl rfl rfl ?_
        refine fV_get (K := 4) (v := .ref (Γ.1 215)) (pc' := 18) G kfX4_hold_7 (by omega) rfl rfl rfl dX4_hold_15 rfl ?_
        refine fV_iload_n (pc' := 19) G 1 dX4_hold_18 rfl rfl rfl ?_
        refine fV_iald (K := 8) (n := 241) (pc' := 20) G (by omega) rfl (fun _ _ => rfl) (by decide) (by omega) dX4_hold_19 rfl ?_
        refine fV_iast (K := 8) (n := 241) (pc' := 21) G (by omega) rfl (fun _ _ => rfl) (by decide) (by omega) dX4_hold_20 rfl (fun I102 eI102 => ?_)
        refine fV_iinc (lv' := [(1, .int (i32 (i + 1))), (0, .ref (Γ.1 214))]) (pc' := 24) G 1 dX4_hold_21 rfl (by decide) rfl rfl ?_
        refine fV_goto (tgt := 2) G dX4_hold_24 (by decide) ?_
        refine fV_lv (lv' := [(0, .ref (Γ.1 214)), (1, .int (i32 (i + 1)))]) [1, 0] rfl ?_
        exact ih_lp _ (by omega) (i + 1) I102 (by omega) (by rw [eI102, hJ, ← fcpy_s (n := i) (Or.inl (by decide)) (by omega)]; simp only [Int.zero_add]) rfl
  refine fV_lv (lv' := [(0, .ref (Γ.1 214)), (1, .int (i32 0))]) [1, 0] rfl ?_
  exact lp _ 0 I (by omega) ((fcpy_0 _ _ _ _ _).symm) rfl
set_option maxHeartbeats 4000000 in
set_option maxRecDepth 100000 in
theorem mX4_exchange (l : Launch) (Γ : fG) {N : Nat} (hN : 220 ≤ N) (I : fM) (P : fN)  : fMet l yX4_exchange wsX4_exchange rmX4_exchange Γ N [.ref (Γ.1 214)] I P (fE none (fxch I 241) P) := by
  refine fMet_of (own := RX4) (cc := cX4_exchange) (maxL := 3) (ret := none) rfl (by decide +kernel) rfl (Nat.le_of_ble_eq_true rfl) ?_
  intro p e s m args below meth c G
  refine fV_lv (lv' := [(0, .ref (Γ.1 214))]) [0] rfl ?_
  refine fV_iconst (pc' := 1) G dX4_exchange_0 rfl ?_
  refine fV_istore_n (lv' := [(1, .int (i32 0)), (0, .ref (Γ.1 214))]) (pc' := 2) G dX4_exchange_1 rfl (by decide) rfl rfl ?_
  have lp : ∀ (z : Nat) (i : Int) (J : fM), 0 ≤ i ∧ i ≤ 241 → J = fxch I i → ((241 - i).toNat) = z → fV p l e rmX4_exchange s m args below meth c (MQ below (fQ Γ N (fE none (fxch I 241) P)) args s 0 0 (fA Γ N)) (fA Γ N) Γ N 3 0 0 J P 2 [(0, .ref (Γ.1 214)), (1, .int (i32 i))] [] := by
    intro z
    induction z using Nat.strongRecOn with
    | _ z ih_lp =>
      intro i J hi hJ hz_lp
      refine fV_iload_n (pc' := 3) G 1 dX4_exchange_2 rfl rfl rfl ?_
      refine fV_sipush (n := 241) (pc' := 6) G dX4_exchange_3 rfl rfl ?_
      refine fV_icmp_ge (tgt := 41) (pc' := 9) G dX4_exchange_6 (by decide) rfl (by omega) (by decide) (fun c101 => ?_) (fun c101 => ?_)
      · refine fV_vret G dX4_exchange_41 ?_
        exact fE_vm (by rw [hJ, show i = 241 by omega]) rfl
      · refine fV_aload_n (pc' := 10) G 0 dX4_exchange_9 rfl rfl rfl ?_
        refine fV_get (K := 4) (v := .ref (Γ.1 215)) (pc' := 13) G kfX4_exchange_7 (by omega) rfl rfl rfl dX4_exchange_10 rfl ?_
        refine fV_iload_n (pc' := 14) G 1 dX4_exchange_13 rfl rfl rfl ?_
        refine fV_iald (K := 8) (n := 241) (pc' := 15) G (by omega) rfl (fun _ _ => rfl) (by decide) (by omega) dX4_exchange_14 rfl ?_
        refine fV_istore_n (lv' := [(2, .int (i32 (J 215 i))), (0, .ref (Γ.1 214)), (1, .int (i32 i))]) (pc' := 16) G dX4_exchange_15 rfl (by decide) rfl rfl ?_
        refine fV_aload_n (pc' := 17) G 1 dX4_exchange_16 rfl rfl rfl ?_
        refine fV_get (K := 4) (v := .ref (Γ.1 215)) (pc' := 20) G kfX4_exchange_7 (by omega) rfl rfl rfl dX4_exchange_17 rfl ?_
        refine fV_iload_n (pc' := 21) G 2 dX4_exchange_20 rfl rfl rfl ?_
        refine fV_aload_n (pc' := 22) G 1 dX4_exchange_21 rfl rfl rfl ?_
        refine fV_get (K := 4) (v := .ref (Γ.1 216)) (pc' := 25) G kfX4_exchange_13 (by omega) rfl rfl rfl dX4_exchange_22 rfl ?_
        refine fV_iload_n (pc' := 26) G 2 dX4_exchange_25 rfl rfl rfl ?_
        refine fV_iald (K := 8) (n := 241) (pc' := 27) G (by omega) rfl (fun _ _ => rfl) (by decide) (by omega) dX4_exchange_26 rfl ?_
        refine fV_iast (K := 8) (n := 241) (pc' := 28) G (by omega) rfl (fun _ _ => rfl) (by decide) (by omega) dX4_exchange_27 rfl (fun I102 eI102 => ?_)
        refine fV_aload_n (pc' := 29) G 1 dX4_exchange_28 rfl rfl rfl ?_
        refine fV_get (K := 4) (v := .ref (Γ.1 216)) (pc' := 32) G kfX4_exchange_13 (by omega) rfl rfl rfl dX4_exchange_29 rfl ?_
        refine fV_iload_n (pc' := 33) G 2 dX4_exchange_32 rfl rfl rfl ?_
        refine fV_iload_n (pc' := 34) G 0 dX4_exchange_33 rfl rfl rfl ?_
        refine fV_iast (K := 8) (n := 241) (pc' := 35) G (by omega) rfl (fun _ _ => rfl) (by decide) (by omega) dX4_exchange_34 rfl (fun I103 eI103 => ?_)
        refine fV_iinc (lv' := [(1, .int (i32 (i + 1))), (2, .int (i32 (J 215 i))), (0, .ref (Γ.1 214))]) (pc' := 38) G 2 dX4_exchange_35 rfl (by decide) rfl rfl ?_
        refine fV_goto (tgt := 2) G dX4_exchange_38 (by decide) ?_
        refine fV_lv (lv' := [(0, .ref (Γ.1 214)), (1, .int (i32 (i + 1)))]) [2, 0] rfl ?_
        exact ih_lp _ (by omega) (i + 1) I103 (by omega) (by rw [← fxch_s (by omega), ← hJ]; subst_vars; rfl) rfl
  refine fV_lv (lv' := [(0, .ref (Γ.1 214)), (1, .int (i32 0))]) [1, 0] rfl ?_
  exact lp _ 0 I (by omega) ((fxch_0 _).symm) rfl
set_option maxHeartbeats 4000000 in
set_option maxRecDepth 100000 in
theorem mX4_act (l : Launch) (Γ : fG) {N : Nat} (hN : 220 ≤ N) (I : fM) (P : fN) (hs4 : 0 ≤ I 214 4 ∧ I 214 4 ≤ 5) : fMet l yX4_act wsX4_act rmX4_act Γ N [.ref (Γ.1 214)] I P (fE none (mAct I) P) := by
  refine fMet_of (own := RX4) (cc := cX4_act) (maxL := 2) (ret := none) rfl (by decide +kernel) rfl (Nat.le_of_ble_eq_true rfl) ?_
  intro p e s m args below meth c G
  refine fV_lv (lv' := [(0, .ref (Γ.1 214))]) [0] rfl ?_
  refine fV_aload_n (pc' := 1) G 0 dX4_act_0 rfl rfl rfl ?_
  refine fV_get (K := 4) (v := .int (i32 (I 214 4))) (pc' := 4) G kfX4_act_30 (by omega) rfl rfl rfl dX4_act_1 rfl ?_
  refine fV_iconst (pc' := 5) G dX4_act_4 rfl ?_
  refine fV_icmp_ne (tgt := 49) (pc' := 8) G dX4_act_5 (by decide) rfl (by omega) (by decide) (fun c1 => ?_) (fun c1 => ?_)
  · refine fV_iconst (pc' := 50) G dX4_act_49 rfl ?_
    refine fV_istore_n (lv' := [(1, .int (i32 0)), (0, .ref (Γ.1 214))]) (pc' := 51) G dX4_act_50 rfl (by decide) rfl rfl ?_
    have hk4 : I 214 4 = I 214 4 := rfl
    have hkb : 0 ≤ (I 214 4) ∧ (I 214 4) ≤ 4 := by omega
    have lpb : ∀ (z : Nat) (i : Int) (K : fM), 0 ≤ i ∧ i ≤ 241 → K = fcpy I 215 0 217 (241 * (I 214 4)) i → ((241 - i).toNat) = z → fV p l e rmX4_act s m args below meth c (MQ below (fQ Γ N (fE none (mAct I) P)) args s 0 0 (fA Γ N)) (fA Γ N) Γ N 2 0 0 K P 51 [(0, .ref (Γ.1 214)), (1, .int (i32 i))] [] := by
      intro z
      induction z using Nat.strongRecOn with
      | _ z ih_lpb =>
        intro i K hi hK hz_lpb
        refine fV_iload_n (pc' := 52) G 1 dX4_act_51 rfl rfl rfl ?_
        refine fV_sipush (n := 241) (pc' := 55) G dX4_act_52 rfl rfl ?_
        refine fV_icmp_ge (tgt := 85) (pc' := 58) G dX4_act_55 (by decide) rfl (by omega) (by decide) (fun c102 => ?_) (fun c102 => ?_)
        · refine fV_aload_n (pc' := 86) G 0 dX4_act_85 rfl rfl rfl ?_
          refine fV_dup (pc' := 87) G dX4_act_86 rfl rfl ?_
          refine fV_get (K := 4) (v := .int (i32 (K 214 4))) (pc' := 90) G kfX4_act_30 (by omega) rfl rfl rfl dX4_act_87 rfl ?_
          refine fV_top (b := I 214 4) (by rw [hK, fcpy_k (by decide), hk4]) ?_
          refine fV_iconst (pc' := 91) G dX4_act_90 rfl ?_
          refine fV_iadd (pc' := 92) G dX4_act_91 rfl ?_
          refine fV_put (K := 4) (jj := 4) (x := (I 214 4) + 1) (v := .int (i32 ((I 214 4) + 1))) (ty := .int) (pc' := 95) G kfX4_act_30 (by omega) rfl rfl rfl kp4_4 rfl rfl (Nat.le_of_ble_eq_true rfl) dX4_act_92 rfl (fun I103 eI103 => ?_)
          refine fV_vret G dX4_act_95 ?_
          exact fE_vm (by unfold mAct; rw [if_neg (by omega), eI103, hK, show i = 241 by omega]) rfl
        · refine fV_aload_n (pc' := 59) G 0 dX4_act_58 rfl rfl rfl ?_
          refine fV_get (K := 4) (v := .ref (Γ.1 217)) (pc' := 62) G kfX4_act_16 (by omega) rfl rfl rfl dX4_act_59 rfl ?_
          refine fV_sipush (n := 241) (pc' := 65) G dX4_act_62 rfl rfl ?_
          refine fV_aload_n (pc' := 66) G 0 dX4_act_65 rfl rfl rfl ?_
          refine fV_get (K := 4) (v := .int (i32 (K 214 4))) (pc' := 69) G kfX4_act_30 (by omega) rfl rfl rfl dX4_act_66 rfl ?_
          refine fV_top (b := I 214 4) (by rw [hK, fcpy_k (by decide), hk4]) ?_
          refine fV_imul (pc' := 70) G dX4_act_69 rfl ?_
          refine fV_iload_n (pc' := 71) G 1 dX4_act_70 rfl rfl rfl ?_
          refine fV_iadd (pc' := 72) G dX4_act_71 rfl ?_
          refine fV_aload_n (pc' := 73) G 0 dX4_act_72 rfl rfl rfl ?_
          refine fV_get (K := 4) (v := .ref (Γ.1 215)) (pc' := 76) G kfX4_act_7 (by omega) rfl rfl rfl dX4_act_73 rfl ?_
          refine fV_iload_n (pc' := 77) G 1 dX4_act_76 rfl rfl rfl ?_
          refine fV_iald (K := 8) (n := 241) (pc' := 78) G (by omega) rfl (fun _ _ => rfl) (by decide) (by omega) dX4_act_77 rfl ?_
          refine fV_iast (K := 9) (n := 1205) (pc' := 79) G (by omega) rfl (fun _ _ => rfl) (by decide) (by omega) dX4_act_78 rfl (fun I103 eI103 => ?_)
          refine fV_iinc (lv' := [(1, .int (i32 (i + 1))), (0, .ref (Γ.1 214))]) (pc' := 82) G 1 dX4_act_79 rfl (by decide) rfl rfl ?_
          refine fV_goto (tgt := 51) G dX4_act_82 (by decide) ?_
          refine fV_lv (lv' := [(0, .ref (Γ.1 214)), (1, .int (i32 (i + 1)))]) [1, 0] rfl ?_
          exact ih_lpb _ (by omega) (i + 1) I103 (by omega) (by rw [eI103, hK, ← fcpy_s (n := i) (Or.inl (by decide)) (by omega)]; simp only [Int.zero_add]) rfl
    refine fV_lv (lv' := [(0, .ref (Γ.1 214)), (1, .int (i32 0))]) [1, 0] rfl ?_
    exact lpb _ 0 I (by omega) ((fcpy_0 _ _ _ _ _).symm) rfl
  · refine fV_iconst (pc' := 9) G dX4_act_8 rfl ?_
    refine fV_istore_n (lv' := [(1, .int (i32 0)), (0, .ref (Γ.1 214))]) (pc' := 10) G dX4_act_9 rfl (by decide) rfl rfl ?_
    have lpa : ∀ (z : Nat) (i : Int) (J : fM), 0 ≤ i ∧ i ≤ 964 → J = fcpy I 217 241 217 0 i → ((964 - i).toNat) = z → fV p l e rmX4_act s m args below meth c (MQ below (fQ Γ N (fE none (mAct I) P)) args s 0 0 (fA Γ N)) (fA Γ N) Γ N 2 0 0 J P 10 [(0, .ref (Γ.1 214)), (1, .int (i32 i))] [] := by
      intro z
      induction z using Nat.strongRecOn with
      | _ z ih_lpa =>
        intro i J hi hJ hz_lpa
        refine fV_iload_n (pc' := 11) G 1 dX4_act_10 rfl rfl rfl ?_
        refine fV_sipush (n := 964) (pc' := 14) G dX4_act_11 rfl rfl ?_
        refine fV_icmp_ge (tgt := 39) (pc' := 17) G dX4_act_14 (by decide) rfl (by omega) (by decide) (fun c102 => ?_) (fun c102 => ?_)
        · have hJ1 : J = fcpy I 217 241 217 0 964 := by rw [hJ, show i = 964 by omega]
          refine fV_aload_n (pc' := 40) G 0 dX4_act_39 rfl rfl rfl ?_
          refine fV_dup (pc' := 41) G dX4_act_40 rfl rfl ?_
          refine fV_get (K := 4) (v := .int (i32 (J 214 4))) (pc' := 44) G kfX4_act_30 (by omega) rfl rfl rfl dX4_act_41 rfl ?_
          refine fV_top (b := 5) (by rw [hJ, fcpy_k (by decide)]; exact c1) ?_
          refine fV_iconst (pc' := 45) G dX4_act_44 rfl ?_
          refine fV_isub (pc' := 46) G dX4_act_45 rfl ?_
          refine fV_put (K := 4) (jj := 4) (x := 5 - 1) (v := .int (i32 (5 - 1))) (ty := .int) (pc' := 49) G kfX4_act_30 (by omega) rfl rfl rfl kp4_4 rfl rfl (Nat.le_of_ble_eq_true rfl) dX4_act_46 rfl (fun I103 eI103 => ?_)
          refine fV_iconst (pc' := 50) G dX4_act_49 rfl ?_
          refine fV_istore_n (lv' := [(1, .int (i32 0)), (0, .ref (Γ.1 214))]) (pc' := 51) G dX4_act_50 rfl (by decide) rfl rfl ?_
          have hk4 : I103 214 4 = 4 := by rw [eI103, fup_s]; decide
          have hkb : 0 ≤ 4 ∧ 4 ≤ 4 := by omega
          have lpb : ∀ (z : Nat) (i : Int) (K : fM), 0 ≤ i ∧ i ≤ 241 → K = fcpy I103 215 0 217 (241 * 4) i → ((241 - i).toNat) = z → fV p l e rmX4_act s m args below meth c (MQ below (fQ Γ N (fE none (mAct I) P)) args s 0 0 (fA Γ N)) (fA Γ N) Γ N 2 0 0 K P 51 [(0, .ref (Γ.1 214)), (1, .int (i32 i))] [] := by
            intro z
            induction z using Nat.strongRecOn with
            | _ z ih_lpb =>
              intro i K hi hK hz_lpb
              refine fV_iload_n (pc' := 52) G 1 dX4_act_51 rfl rfl rfl ?_
              refine fV_sipush (n := 241) (pc' := 55) G dX4_act_52 rfl rfl ?_
              refine fV_icmp_ge (tgt := 85) (pc' := 58) G dX4_act_55 (by decide) rfl (by omega) (by decide) (fun c204 => ?_) (fun c204 => ?_)
              · refine fV_aload_n (pc' := 86) G 0 dX4_act_85 rfl rfl rfl ?_
                refine fV_dup (pc' := 87) G dX4_act_86 rfl rfl ?_
                refine fV_get (K := 4) (v := .int (i32 (K 214 4))) (pc' := 90) G kfX4_act_30 (by omega) rfl rfl rfl dX4_act_87 rfl ?_
                refine fV_top (b := 4) (by rw [hK, fcpy_k (by decide), hk4]) ?_
                refine fV_iconst (pc' := 91) G dX4_act_90 rfl ?_
                refine fV_iadd (pc' := 92) G dX4_act_91 rfl ?_
                refine fV_put (K := 4) (jj := 4) (x := 4 + 1) (v := .int (i32 (4 + 1))) (ty := .int) (pc' := 95) G kfX4_act_30 (by omega) rfl rfl rfl kp4_4 rfl rfl (Nat.le_of_ble_eq_true rfl) dX4_act_92 rfl (fun I205 eI205 => ?_)
                refine fV_vret G dX4_act_95 ?_
                exact fE_vm (by unfold mAct; rw [if_pos (by omega), eI205, hK, show i = 241 by omega, eI103, hJ1]; rfl) rfl
              · refine fV_aload_n (pc' := 59) G 0 dX4_act_58 rfl rfl rfl ?_
                refine fV_get (K := 4) (v := .ref (Γ.1 217)) (pc' := 62) G kfX4_act_16 (by omega) rfl rfl rfl dX4_act_59 rfl ?_
                refine fV_sipush (n := 241) (pc' := 65) G dX4_act_62 rfl rfl ?_
                refine fV_aload_n (pc' := 66) G 0 dX4_act_65 rfl rfl rfl ?_
                refine fV_get (K := 4) (v := .int (i32 (K 214 4))) (pc' := 69) G kfX4_act_30 (by omega) rfl rfl rfl dX4_act_66 rfl ?_
                refine fV_top (b := 4) (by rw [hK, fcpy_k (by decide), hk4]) ?_
                refine fV_imul (pc' := 70) G dX4_act_69 rfl ?_
                refine fV_iload_n (pc' := 71) G 1 dX4_act_70 rfl rfl rfl ?_
                refine fV_iadd (pc' := 72) G dX4_act_71 rfl ?_
                refine fV_aload_n (pc' := 73) G 0 dX4_act_72 rfl rfl rfl ?_
                refine fV_get (K := 4) (v := .ref (Γ.1 215)) (pc' := 76) G kfX4_act_7 (by omega) rfl rfl rfl dX4_act_73 rfl ?_
                refine fV_iload_n (pc' := 77) G 1 dX4_act_76 rfl rfl rfl ?_
                refine fV_iald (K := 8) (n := 241) (pc' := 78) G (by omega) rfl (fun _ _ => rfl) (by decide) (by omega) dX4_act_77 rfl ?_
                refine fV_iast (K := 9) (n := 1205) (pc' := 79) G (by omega) rfl (fun _ _ => rfl) (by decide) (by omega) dX4_act_78 rfl (fun I205 eI205 => ?_)
                refine fV_iinc (lv' := [(1, .int (i32 (i + 1))), (0, .ref (Γ.1 214))]) (pc' := 82) G 1 dX4_act_79 rfl (by decide) rfl rfl ?_
                refine fV_goto (tgt := 51) G dX4_act_82 (by decide) ?_
                refine fV_lv (lv' := [(0, .ref (Γ.1 214)), (1, .int (i32 (i + 1)))]) [1, 0] rfl ?_
                exact ih_lpb _ (by omega) (i + 1) I205 (by omega) (by rw [eI205, hK, ← fcpy_s (n := i) (Or.inl (by decide)) (by omega)]; simp only [Int.zero_add]) rfl
          refine fV_lv (lv' := [(0, .ref (Γ.1 214)), (1, .int (i32 0))]) [1, 0] rfl ?_
          exact lpb _ 0 I103 (by omega) ((fcpy_0 _ _ _ _ _).symm) rfl
        · refine fV_aload_n (pc' := 18) G 0 dX4_act_17 rfl rfl rfl ?_
          refine fV_get (K := 4) (v := .ref (Γ.1 217)) (pc' := 21) G kfX4_act_16 (by omega) rfl rfl rfl dX4_act_18 rfl ?_
          refine fV_iload_n (pc' := 22) G 1 dX4_act_21 rfl rfl rfl ?_
          refine fV_aload_n (pc' := 23) G 0 dX4_act_22 rfl rfl rfl ?_
          refine fV_get (K := 4) (v := .ref (Γ.1 217)) (pc' := 26) G kfX4_act_16 (by omega) rfl rfl rfl dX4_act_23 rfl ?_
          refine fV_iload_n (pc' := 27) G 1 dX4_act_26 rfl rfl rfl ?_
          refine fV_sipush (n := 241) (pc' := 30) G dX4_act_27 rfl rfl ?_
          refine fV_iadd (pc' := 31) G dX4_act_30 rfl ?_
          refine fV_iald (K := 9) (n := 1205) (pc' := 32) G (by omega) rfl (fun _ _ => rfl) (by decide) (by omega) dX4_act_31 rfl ?_
          refine fV_iast (K := 9) (n := 1205) (pc' := 33) G (by omega) rfl (fun _ _ => rfl) (by decide) (by omega) dX4_act_32 rfl (fun I103 eI103 => ?_)
          refine fV_iinc (lv' := [(1, .int (i32 (i + 1))), (0, .ref (Γ.1 214))]) (pc' := 36) G 1 dX4_act_33 rfl (by decide) rfl rfl ?_
          refine fV_goto (tgt := 10) G dX4_act_36 (by decide) ?_
          refine fV_lv (lv' := [(0, .ref (Γ.1 214)), (1, .int (i32 (i + 1)))]) [1, 0] rfl ?_
          exact ih_lpa _ (by omega) (i + 1) I103 (by omega) (by rw [eI103, hJ, ← fcpy_s (n := i) (Or.inr (by decide)) (by omega)]; simp only [Int.zero_add]; congr 2; omega) rfl
    refine fV_lv (lv' := [(0, .ref (Γ.1 214)), (1, .int (i32 0))]) [1, 0] rfl ?_
    exact lpa _ 0 I (by omega) ((fcpy_0 _ _ _ _ _).symm) rfl
set_option maxHeartbeats 4000000 in
set_option maxRecDepth 100000 in
theorem mX4_makeWord (l : Launch) (Γ : fG) {N : Nat} (hN : 220 ≤ N) (I : fM) (P : fN) (hn : 0 ≤ I 215 0 ∧ I 215 0 < 12) (many f sp he way : Int) : fMet l yX4_makeWord wsX4_makeWord rmX4_makeWord Γ N [.ref (Γ.1 214), .int (i32 many), .int (i32 f), .int (i32 sp), .int (i32 he), .int (i32 way)] I P (fE (some (.int (i32 (I 215 0)))) (mMake I many f sp he way) P) := by
  refine fMet_of (own := RX4) (cc := cX4_makeWord) (maxL := 7) (ret := (some .int)) rfl (by decide +kernel) rfl (Nat.le_of_ble_eq_true rfl) ?_
  intro p e s m args below meth c G
  refine fV_lv (lv' := [(0, .ref (Γ.1 214)), (1, .int (i32 many)), (2, .int (i32 f)), (3, .int (i32 sp)), (4, .int (i32 he)), (5, .int (i32 way))]) [0, 1, 2, 3, 4, 5] rfl ?_
  refine fV_aload_n (pc' := 1) G 0 dX4_makeWord_0 rfl rfl rfl ?_
  refine fV_get (K := 4) (v := .ref (Γ.1 215)) (pc' := 4) G kfX4_makeWord_7 (by omega) rfl rfl rfl dX4_makeWord_1 rfl ?_
  refine fV_iconst (pc' := 5) G dX4_makeWord_4 rfl ?_
  refine fV_iald (K := 8) (n := 241) (pc' := 6) G (by omega) rfl (fun _ _ => rfl) (by decide) (by omega) dX4_makeWord_5 rfl ?_
  refine fV_istore (lv' := [(6, .int (i32 (I 215 0))), (0, .ref (Γ.1 214)), (1, .int (i32 many)), (2, .int (i32 f)), (3, .int (i32 sp)), (4, .int (i32 he)), (5, .int (i32 way))]) (pc' := 8) G dX4_makeWord_6 (by decide) rfl rfl ?_
  refine fV_aload_n (pc' := 9) G 1 dX4_makeWord_8 rfl rfl rfl ?_
  refine fV_iload (pc' := 11) G 0 dX4_makeWord_9 rfl rfl ?_
  refine fV_bipush (n := 6) (pc' := 13) G dX4_makeWord_11 rfl rfl ?_
  refine fV_iload_n (pc' := 14) G 2 dX4_makeWord_13 rfl rfl rfl ?_
  obtain ⟨I1, eI1⟩ : ∃ J : fM, J = fup I 215 (13 + 19 * (I 215 0) + 6) many := ⟨_, rfl⟩
  refine fV_callVf (I' := I1) (st' := []) (n := 3) (k := 214) (K := 4) (As := [.int (i32 (I 215 0)), .int (i32 6), .int (i32 many)]) (rest := []) (pc' := 17) G (by rw [eI1]; exact mX4_set l Γ hN I P (I 215 0) (by omega) 6 (by omega) many) kcX4_makeWord_81 (by omega) rfl rfl rfl rfl (Nat.le_of_ble_eq_true rfl) (Nat.zero_le _) (Nat.zero_le _) dX4_makeWord_14 rfl rfl ?_
  refine fV_aload_n (pc' := 18) G 1 dX4_makeWord_17 rfl rfl rfl ?_
  refine fV_iload (pc' := 20) G 0 dX4_makeWord_18 rfl rfl ?_
  refine fV_iconst (pc' := 21) G dX4_makeWord_20 rfl ?_
  refine fV_iload_n (pc' := 22) G 3 dX4_makeWord_21 rfl rfl rfl ?_
  obtain ⟨I2, eI2⟩ : ∃ J : fM, J = fup I1 215 (13 + 19 * (I 215 0) + 0) f := ⟨_, rfl⟩
  refine fV_callVf (I' := I2) (st' := []) (n := 3) (k := 214) (K := 4) (As := [.int (i32 (I 215 0)), .int (i32 0), .int (i32 f)]) (rest := []) (pc' := 25) G (by rw [eI2]; exact mX4_set l Γ hN I1 P (I 215 0) (by omega) 0 (by omega) f) kcX4_makeWord_81 (by omega) rfl rfl rfl rfl (Nat.le_of_ble_eq_true rfl) (Nat.zero_le _) (Nat.zero_le _) dX4_makeWord_22 rfl rfl ?_
  refine fV_aload_n (pc' := 26) G 1 dX4_makeWord_25 rfl rfl rfl ?_
  refine fV_iload (pc' := 28) G 0 dX4_makeWord_26 rfl rfl ?_
  refine fV_iconst (pc' := 29) G dX4_makeWord_28 rfl ?_
  refine fV_iload_n (pc' := 30) G 4 dX4_makeWord_29 rfl rfl rfl ?_
  obtain ⟨I3, eI3⟩ : ∃ J : fM, J = fup I2 215 (13 + 19 * (I 215 0) + 1) sp := ⟨_, rfl⟩
  refine fV_callVf (I' := I3) (st' := []) (n := 3) (k := 214) (K := 4) (As := [.int (i32 (I 215 0)), .int (i32 1), .int (i32 sp)]) (rest := []) (pc' := 33) G (by rw [eI3]; exact mX4_set l Γ hN I2 P (I 215 0) (by omega) 1 (by omega) sp) kcX4_makeWord_81 (by omega) rfl rfl rfl rfl (Nat.le_of_ble_eq_true rfl) (Nat.zero_le _) (Nat.zero_le _) dX4_makeWord_30 rfl rfl ?_
  refine fV_aload_n (pc' := 34) G 1 dX4_makeWord_33 rfl rfl rfl ?_
  refine fV_iload (pc' := 36) G 0 dX4_makeWord_34 rfl rfl ?_
  refine fV_iconst (pc' := 37) G dX4_makeWord_36 rfl ?_
  refine fV_iload (pc' := 39) G 5 dX4_makeWord_37 rfl rfl ?_
  obtain ⟨I4, eI4⟩ : ∃ J : fM, J = fup I3 215 (13 + 19 * (I 215 0) + 2) he := ⟨_, rfl⟩
  refine fV_callVf (I' := I4) (st' := []) (n := 3) (k := 214) (K := 4) (As := [.int (i32 (I 215 0)), .int (i32 2), .int (i32 he)]) (rest := []) (pc' := 42) G (by rw [eI4]; exact mX4_set l Γ hN I3 P (I 215 0) (by omega) 2 (by omega) he) kcX4_makeWord_81 (by omega) rfl rfl rfl rfl (Nat.le_of_ble_eq_true rfl) (Nat.zero_le _) (Nat.zero_le _) dX4_makeWord_39 rfl rfl ?_
  refine fV_aload_n (pc' := 43) G 1 dX4_makeWord_42 rfl rfl rfl ?_
  refine fV_iload (pc' := 45) G 0 dX4_makeWord_43 rfl rfl ?_
  refine fV_iconst (pc' := 46) G dX4_makeWord_45 rfl ?_
  refine fV_iload (pc' := 48) G 6 dX4_makeWord_46 rfl rfl ?_
  obtain ⟨I5, eI5⟩ : ∃ J : fM, J = fup I4 215 (13 + 19 * (I 215 0) + 3) way := ⟨_, rfl⟩
  refine fV_callVf (I' := I5) (st' := []) (n := 3) (k := 214) (K := 4) (As := [.int (i32 (I 215 0)), .int (i32 3), .int (i32 way)]) (rest := []) (pc' := 51) G (by rw [eI5]; exact mX4_set l Γ hN I4 P (I 215 0) (by omega) 3 (by omega) way) kcX4_makeWord_81 (by omega) rfl rfl rfl rfl (Nat.le_of_ble_eq_true rfl) (Nat.zero_le _) (Nat.zero_le _) dX4_makeWord_48 rfl rfl ?_
  refine fV_aload_n (pc' := 52) G 1 dX4_makeWord_51 rfl rfl rfl ?_
  refine fV_iload (pc' := 54) G 0 dX4_makeWord_52 rfl rfl ?_
  refine fV_iconst (pc' := 55) G dX4_makeWord_54 rfl ?_
  refine fV_iconst (pc' := 56) G dX4_makeWord_55 rfl ?_
  obtain ⟨I6, eI6⟩ : ∃ J : fM, J = fup I5 215 (13 + 19 * (I 215 0) + 4) (-1) := ⟨_, rfl⟩
  refine fV_callVf (I' := I6) (st' := []) (n := 3) (k := 214) (K := 4) (As := [.int (i32 (I 215 0)), .int (i32 4), .int (i32 (-1))]) (rest := []) (pc' := 59) G (by rw [eI6]; exact mX4_set l Γ hN I5 P (I 215 0) (by omega) 4 (by omega) (-1)) kcX4_makeWord_81 (by omega) rfl rfl rfl rfl (Nat.le_of_ble_eq_true rfl) (Nat.zero_le _) (Nat.zero_le _) dX4_makeWord_56 rfl rfl ?_
  refine fV_aload_n (pc' := 60) G 1 dX4_makeWord_59 rfl rfl rfl ?_
  refine fV_iload (pc' := 62) G 0 dX4_makeWord_60 rfl rfl ?_
  refine fV_iconst (pc' := 63) G dX4_makeWord_62 rfl ?_
  refine fV_iconst (pc' := 64) G dX4_makeWord_63 rfl ?_
  obtain ⟨I7, eI7⟩ : ∃ J : fM, J = fup I6 215 (13 + 19 * (I 215 0) + 5) (-1) := ⟨_, rfl⟩
  refine fV_callVf (I' := I7) (st' := []) (n := 3) (k := 214) (K := 4) (As := [.int (i32 (I 215 0)), .int (i32 5), .int (i32 (-1))]) (rest := []) (pc' := 67) G (by rw [eI7]; exact mX4_set l Γ hN I6 P (I 215 0) (by omega) 5 (by omega) (-1)) kcX4_makeWord_81 (by omega) rfl rfl rfl rfl (Nat.le_of_ble_eq_true rfl) (Nat.zero_le _) (Nat.zero_le _) dX4_makeWord_64 rfl rfl ?_
  refine fV_aload_n (pc' := 68) G 1 dX4_makeWord_67 rfl rfl rfl ?_
  refine fV_get (K := 4) (v := .ref (Γ.1 215)) (pc' := 71) G kfX4_makeWord_7 (by omega) rfl rfl rfl dX4_makeWord_68 rfl ?_
  refine fV_iconst (pc' := 72) G dX4_makeWord_71 rfl ?_
  refine fV_dup2 (pc' := 73) G dX4_makeWord_72 rfl rfl rfl ?_
  refine fV_iald (K := 8) (n := 241) (pc' := 74) G (by omega) rfl (fun _ _ => rfl) (by decide) (by omega) dX4_makeWord_73 rfl ?_
  refine fV_top (b := I 215 0) (by rw [eI7, fup_j (by omega), eI6, fup_j (by omega), eI5, fup_j (by omega), eI4, fup_j (by omega), eI3, fup_j (by omega), eI2, fup_j (by omega), eI1, fup_j (by omega)]) ?_
  refine fV_iconst (pc' := 75) G dX4_makeWord_74 rfl ?_
  refine fV_iadd (pc' := 76) G dX4_makeWord_75 rfl ?_
  refine fV_iast (K := 8) (n := 241) (pc' := 77) G (by omega) rfl (fun _ _ => rfl) (by decide) (by omega) dX4_makeWord_76 rfl (fun I8 eI8 => ?_)
  refine fV_iload (pc' := 79) G 0 dX4_makeWord_77 rfl rfl ?_
  refine fV_iret G dX4_makeWord_79 ?_
  exact fE_im rfl (by unfold mMake; rw [eI8, eI7, eI6, eI5, eI4, eI3, eI2, eI1]) rfl
set_option maxHeartbeats 4000000 in
set_option maxRecDepth 100000 in
theorem mX4_takeOff (l : Launch) (Γ : fG) {N : Nat} (hN : 220 ≤ N) (I : fM) (P : fN) (w : Int) (hw : 0 ≤ w ∧ w < 12) : fMet l yX4_takeOff wsX4_takeOff rmX4_takeOff Γ N [.ref (Γ.1 214), .int (i32 w)] I P (fE none (fup (fup I 215 (13 + 19 * w + 4) (-1)) 215 (13 + 19 * w + 5) (-1)) P) := by
  refine fMet_of (own := RX4) (cc := cX4_takeOff) (maxL := 2) (ret := none) rfl (by decide +kernel) rfl (Nat.le_of_ble_eq_true rfl) ?_
  intro p e s m args below meth c G
  refine fV_lv (lv' := [(0, .ref (Γ.1 214)), (1, .int (i32 w))]) [0, 1] rfl ?_
  refine fV_aload_n (pc' := 1) G 0 dX4_takeOff_0 rfl rfl rfl ?_
  refine fV_iload_n (pc' := 2) G 1 dX4_takeOff_1 rfl rfl rfl ?_
  refine fV_iconst (pc' := 3) G dX4_takeOff_2 rfl ?_
  refine fV_iconst (pc' := 4) G dX4_takeOff_3 rfl ?_
  obtain ⟨I1, eI1⟩ : ∃ J : fM, J = fup I 215 (13 + 19 * w + 4) (-1) := ⟨_, rfl⟩
  refine fV_callVf (I' := I1) (st' := []) (n := 3) (k := 214) (K := 4) (As := [.int (i32 w), .int (i32 4), .int (i32 (-1))]) (rest := []) (pc' := 7) G (by rw [eI1]; exact mX4_set l Γ hN I P w (by omega) 4 (by omega) (-1)) kcX4_takeOff_81 (by omega) rfl rfl rfl rfl (Nat.le_of_ble_eq_true rfl) (Nat.zero_le _) (Nat.zero_le _) dX4_takeOff_4 rfl rfl ?_
  refine fV_aload_n (pc' := 8) G 0 dX4_takeOff_7 rfl rfl rfl ?_
  refine fV_iload_n (pc' := 9) G 1 dX4_takeOff_8 rfl rfl rfl ?_
  refine fV_iconst (pc' := 10) G dX4_takeOff_9 rfl ?_
  refine fV_iconst (pc' := 11) G dX4_takeOff_10 rfl ?_
  obtain ⟨I2, eI2⟩ : ∃ J : fM, J = fup I1 215 (13 + 19 * w + 5) (-1) := ⟨_, rfl⟩
  refine fV_callVf (I' := I2) (st' := []) (n := 3) (k := 214) (K := 4) (As := [.int (i32 w), .int (i32 5), .int (i32 (-1))]) (rest := []) (pc' := 14) G (by rw [eI2]; exact mX4_set l Γ hN I1 P w (by omega) 5 (by omega) (-1)) kcX4_takeOff_81 (by omega) rfl rfl rfl rfl (Nat.le_of_ble_eq_true rfl) (Nat.zero_le _) (Nat.zero_le _) dX4_takeOff_11 rfl rfl ?_
  refine fV_vret G dX4_takeOff_14 ?_
  exact fE_vm (by subst_vars; rfl) rfl
set_option maxHeartbeats 4000000 in
set_option maxRecDepth 100000 in
theorem mX4_lay (l : Launch) (Γ : fG) {N : Nat} (hN : 220 ≤ N) (I : fM) (P : fN) (w : Int) (hw : 0 ≤ w ∧ w < 12) (la co : Int) : fMet l yX4_lay wsX4_lay rmX4_lay Γ N [.ref (Γ.1 214), .int (i32 w), .int (i32 la), .int (i32 co)] I P (fE none (fup (fup I 215 (13 + 19 * w + 4) la) 215 (13 + 19 * w + 5) co) P) := by
  refine fMet_of (own := RX4) (cc := cX4_lay) (maxL := 4) (ret := none) rfl (by decide +kernel) rfl (Nat.le_of_ble_eq_true rfl) ?_
  intro p e s m args below meth c G
  refine fV_lv (lv' := [(0, .ref (Γ.1 214)), (1, .int (i32 w)), (2, .int (i32 la)), (3, .int (i32 co))]) [0, 1, 2, 3] rfl ?_
  refine fV_aload_n (pc' := 1) G 0 dX4_lay_0 rfl rfl rfl ?_
  refine fV_iload_n (pc' := 2) G 1 dX4_lay_1 rfl rfl rfl ?_
  refine fV_iconst (pc' := 3) G dX4_lay_2 rfl ?_
  refine fV_iload_n (pc' := 4) G 2 dX4_lay_3 rfl rfl rfl ?_
  obtain ⟨I1, eI1⟩ : ∃ J : fM, J = fup I 215 (13 + 19 * w + 4) la := ⟨_, rfl⟩
  refine fV_callVf (I' := I1) (st' := []) (n := 3) (k := 214) (K := 4) (As := [.int (i32 w), .int (i32 4), .int (i32 la)]) (rest := []) (pc' := 7) G (by rw [eI1]; exact mX4_set l Γ hN I P w (by omega) 4 (by omega) la) kcX4_lay_81 (by omega) rfl rfl rfl rfl (Nat.le_of_ble_eq_true rfl) (Nat.zero_le _) (Nat.zero_le _) dX4_lay_4 rfl rfl ?_
  refine fV_aload_n (pc' := 8) G 0 dX4_lay_7 rfl rfl rfl ?_
  refine fV_iload_n (pc' := 9) G 1 dX4_lay_8 rfl rfl rfl ?_
  refine fV_iconst (pc' := 10) G dX4_lay_9 rfl ?_
  refine fV_iload_n (pc' := 11) G 3 dX4_lay_10 rfl rfl rfl ?_
  obtain ⟨I2, eI2⟩ : ∃ J : fM, J = fup I1 215 (13 + 19 * w + 5) co := ⟨_, rfl⟩
  refine fV_callVf (I' := I2) (st' := []) (n := 3) (k := 214) (K := 4) (As := [.int (i32 w), .int (i32 5), .int (i32 co)]) (rest := []) (pc' := 14) G (by rw [eI2]; exact mX4_set l Γ hN I1 P w (by omega) 5 (by omega) co) kcX4_lay_81 (by omega) rfl rfl rfl rfl (Nat.le_of_ble_eq_true rfl) (Nat.zero_le _) (Nat.zero_le _) dX4_lay_11 rfl rfl ?_
  refine fV_vret G dX4_lay_14 ?_
  exact fE_vm (by subst_vars; rfl) rfl
set_option maxHeartbeats 4000000 in
set_option maxRecDepth 100000 in
theorem mX4_isPart (l : Launch) (Γ : fG) {N : Nat} (hN : 220 ≤ N) (I : fM) (P : fN) (what v : Int) (h_what : -2147483648 ≤ what ∧ what ≤ 2147483647) (h_v : -2147483648 ≤ v ∧ v ≤ 2147483647) : fMet l yX4_isPart wsX4_isPart rmX4_isPart Γ N [.int (i32 what), .int (i32 v)] I P (fE (some (.int (i32 (fB (sAllowed what v))))) I P) := by
  refine fMet_of (own := RX4) (cc := cX4_isPart) (maxL := 2) (ret := (some .boolean)) rfl (by decide +kernel) rfl (Nat.le_of_ble_eq_true rfl) ?_
  intro p e s m args below meth c G
  refine fV_lv (lv' := [(0, .int (i32 what)), (1, .int (i32 v))]) [0, 1] rfl ?_
  refine fV_iload_n (pc' := 1) G 0 dX4_isPart_0 rfl rfl rfl ?_
  by_cases c1 : what = 0
  · refine fV_tableIn (off := 31) (tgt := 32) G dX4_isPart_1 (by omega) (by omega) (by omega) (by rw [c1]; rfl) (by decide) ?_
    refine fV_iload_n (pc' := 33) G 1 dX4_isPart_32 rfl rfl rfl ?_
    refine fV_i2l (pc' := 34) G dX4_isPart_33 rfl (by omega) ?_
    refine fV_lconst (v := 0) (pc' := 35) G dX4_isPart_34 rfl rfl ?_
    refine fV_ldc2 (a := 2000) (pc' := 38) G klX4_isPart_85 rfl dX4_isPart_35 rfl ?_
    refine fV_callSf (st' := [.int (i32 (fB (sBetw v 0 2000)))]) (n := 3) (As := [.long (i64 v), .long (i64 0), .long (i64 2000)]) (rest := []) (pc' := 41) G (mX4_in l Γ hN I P v 0 2000 (by omega) (by omega) (by omega)) kcX4_isPart_33 rfl rfl (Nat.le_of_ble_eq_true rfl) (Nat.zero_le _) (Nat.zero_le _) dX4_isPart_38 rfl rfl ?_
    refine fV_zret G dX4_isPart_41 ?_
    exact fE_b (by unfold sAllowed; (try unfold sBetw); simp [*]; try omega)
  by_cases c2 : what = 1
  · refine fV_tableIn (off := 41) (tgt := 42) G dX4_isPart_1 (by omega) (by omega) (by omega) (by rw [c2]; rfl) (by decide) ?_
    refine fV_iload_n (pc' := 43) G 1 dX4_isPart_42 rfl rfl rfl ?_
    refine fV_i2l (pc' := 44) G dX4_isPart_43 rfl (by omega) ?_
    refine fV_lconst (v := 1) (pc' := 45) G dX4_isPart_44 rfl rfl ?_
    refine fV_ldc2 (a := 60) (pc' := 48) G klX4_isPart_87 rfl dX4_isPart_45 rfl ?_
    refine fV_callSf (st' := [.int (i32 (fB (sBetw v 1 60)))]) (n := 3) (As := [.long (i64 v), .long (i64 1), .long (i64 60)]) (rest := []) (pc' := 51) G (mX4_in l Γ hN I P v 1 60 (by omega) (by omega) (by omega)) kcX4_isPart_33 rfl rfl (Nat.le_of_ble_eq_true rfl) (Nat.zero_le _) (Nat.zero_le _) dX4_isPart_48 rfl rfl ?_
    refine fV_zret G dX4_isPart_51 ?_
    exact fE_b (by unfold sAllowed; (try unfold sBetw); simp [*]; try omega)
  by_cases c3 : what = 2
  · refine fV_tableIn (off := 51) (tgt := 52) G dX4_isPart_1 (by omega) (by omega) (by omega) (by rw [c3]; rfl) (by decide) ?_
    refine fV_iload_n (pc' := 53) G 1 dX4_isPart_52 rfl rfl rfl ?_
    refine fV_i2l (pc' := 54) G dX4_isPart_53 rfl (by omega) ?_
    refine fV_lconst (v := 0) (pc' := 55) G dX4_isPart_54 rfl rfl ?_
    refine fV_ldc2 (a := 60) (pc' := 58) G klX4_isPart_87 rfl dX4_isPart_55 rfl ?_
    refine fV_callSf (st' := [.int (i32 (fB (sBetw v 0 60)))]) (n := 3) (As := [.long (i64 v), .long (i64 0), .long (i64 60)]) (rest := []) (pc' := 61) G (mX4_in l Γ hN I P v 0 60 (by omega) (by omega) (by omega)) kcX4_isPart_33 rfl rfl (Nat.le_of_ble_eq_true rfl) (Nat.zero_le _) (Nat.zero_le _) dX4_isPart_58 rfl rfl ?_
    refine fV_zret G dX4_isPart_61 ?_
    exact fE_b (by unfold sAllowed; (try unfold sBetw); simp [*]; try omega)
  by_cases c4 : what = 3
  · refine fV_tableIn (off := 61) (tgt := 62) G dX4_isPart_1 (by omega) (by omega) (by omega) (by rw [c4]; rfl) (by decide) ?_
    refine fV_iload_n (pc' := 63) G 1 dX4_isPart_62 rfl rfl rfl ?_
    refine fV_i2l (pc' := 64) G dX4_isPart_63 rfl (by omega) ?_
    refine fV_lconst (v := 0) (pc' := 65) G dX4_isPart_64 rfl rfl ?_
    refine fV_ldc2 (a := 4) (pc' := 68) G klX4_isPart_89 rfl dX4_isPart_65 rfl ?_
    refine fV_callSf (st' := [.int (i32 (fB (sBetw v 0 4)))]) (n := 3) (As := [.long (i64 v), .long (i64 0), .long (i64 4)]) (rest := []) (pc' := 71) G (mX4_in l Γ hN I P v 0 4 (by omega) (by omega) (by omega)) kcX4_isPart_33 rfl rfl (Nat.le_of_ble_eq_true rfl) (Nat.zero_le _) (Nat.zero_le _) dX4_isPart_68 rfl rfl ?_
    refine fV_zret G dX4_isPart_71 ?_
    exact fE_b (by unfold sAllowed; (try unfold sBetw); simp [*]; try omega)
  refine fV_tableOut (tgt := 72) G dX4_isPart_1 (by omega) (by omega) (by decide) ?_
  refine fV_iconst (pc' := 73) G dX4_isPart_72 rfl ?_
  refine fV_zret (b := false) G dX4_isPart_73 ?_
  exact fE_b (by unfold sAllowed; (try unfold sBetw); simp [*]; try omega)
set_option maxHeartbeats 4000000 in
set_option maxRecDepth 100000 in
theorem mX4_isPlace (l : Launch) (Γ : fG) {N : Nat} (hN : 220 ≤ N) (I : fM) (P : fN) (ho : mOk I) (w la co : Int) (h_w : -2147483648 ≤ w ∧ w ≤ 2147483647) (h_la : -2147483648 ≤ la ∧ la ≤ 2147483647) (h_co : -2147483648 ≤ co ∧ co ≤ 2147483647) : fMet l yX4_isPlace wsX4_isPlace rmX4_isPlace Γ N [.ref (Γ.1 214), .int (i32 w), .int (i32 la), .int (i32 co)] I P (fE (some (.int (i32 (fB (decide ((0 ≤ w ∧ w < I 215 0) ∧ (0 ≤ la ∧ la ≤ 7) ∧ 0 ≤ co ∧ co + I 215 (13 + 19 * w + 6) ≤ 40)))))) I P) := by
  refine fMet_of (own := RX4) (cc := cX4_isPlace) (maxL := 4) (ret := (some .boolean)) rfl (by decide +kernel) rfl (Nat.le_of_ble_eq_true rfl) ?_
  intro p e s m args below meth c G
  obtain ⟨hm, hwm, hth, hsm, hle⟩ := id ho
  obtain ⟨hm1, hm2, hm3, hm4⟩ := id hm
  refine fV_lv (lv' := [(0, .ref (Γ.1 214)), (1, .int (i32 w)), (2, .int (i32 la)), (3, .int (i32 co))]) [0, 1, 2, 3] rfl ?_
  refine fV_aload_n (pc' := 1) G 0 dX4_isPlace_0 rfl rfl rfl ?_
  refine fV_iload_n (pc' := 2) G 1 dX4_isPlace_1 rfl rfl rfl ?_
  refine fV_callVf (st' := [.int (i32 (fB (decide (0 ≤ w ∧ w < I 215 0))))]) (n := 1) (k := 214) (K := 4) (As := [.int (i32 w)]) (rest := []) (pc' := 5) G (mX4_isWord l Γ hN I P hm1 w (by omega)) kcX4_isPlace_103 (by omega) rfl rfl rfl rfl (Nat.le_of_ble_eq_true rfl) (Nat.zero_le _) (Nat.zero_le _) dX4_isPlace_2 rfl rfl ?_
  refine fV_ifeq_b (tgt := 44) (pc' := 8) G dX4_isPlace_5 (by decide) rfl (fun c1 => ?_) (fun c1 => ?_)
  · have d1 : ¬ (0 ≤ w ∧ w < I 215 0) := of_decide_eq_false c1
    refine fV_iconst (pc' := 45) G dX4_isPlace_44 rfl ?_
    refine fV_zret (b := false) G dX4_isPlace_45 ?_
    exact fE_b (by first | (symm; exact decide_eq_true (by omega)) | (symm; exact decide_eq_false (by omega)))
  · have d1 : (0 ≤ w ∧ w < I 215 0) := of_decide_eq_true c1
    have hw6 := (hwm w (by omega) (by omega)).1
    dsimp only [mR] at hw6
    refine fV_iload_n (pc' := 9) G 2 dX4_isPlace_8 rfl rfl rfl ?_
    refine fV_i2l (pc' := 10) G dX4_isPlace_9 rfl (by omega) ?_
    refine fV_lconst (v := 0) (pc' := 11) G dX4_isPlace_10 rfl rfl ?_
    refine fV_ldc2 (a := 7) (pc' := 14) G klX4_isPlace_62 rfl dX4_isPlace_11 rfl ?_
    refine fV_callSf (st' := [.int (i32 (fB (sBetw la 0 7)))]) (n := 3) (As := [.long (i64 la), .long (i64 0), .long (i64 7)]) (rest := []) (pc' := 17) G (mX4_in l Γ hN I P la 0 7 (by omega) (by omega) (by omega)) kcX4_isPlace_33 rfl rfl (Nat.le_of_ble_eq_true rfl) (Nat.zero_le _) (Nat.zero_le _) dX4_isPlace_14 rfl rfl ?_
    refine fV_ifeq_b (tgt := 44) (pc' := 20) G dX4_isPlace_17 (by decide) rfl (fun c2 => ?_) (fun c2 => ?_)
    · have d2 : ¬ (0 ≤ la ∧ la ≤ 7) := of_decide_eq_false c2
      refine fV_iconst (pc' := 45) G dX4_isPlace_44 rfl ?_
      refine fV_zret (b := false) G dX4_isPlace_45 ?_
      exact fE_b (by first | (symm; exact decide_eq_true (by omega)) | (symm; exact decide_eq_false (by omega)))
    · have d2 : (0 ≤ la ∧ la ≤ 7) := of_decide_eq_true c2
      refine fV_iload_n (pc' := 21) G 3 dX4_isPlace_20 rfl rfl rfl ?_
      refine fV_i2l (pc' := 22) G dX4_isPlace_21 rfl (by omega) ?_
      refine fV_lconst (v := 0) (pc' := 23) G dX4_isPlace_22 rfl rfl ?_
      refine fV_bipush (n := 40) (pc' := 25) G dX4_isPlace_23 rfl rfl ?_
      refine fV_aload_n (pc' := 26) G 0 dX4_isPlace_25 rfl rfl rfl ?_
      refine fV_iload_n (pc' := 27) G 1 dX4_isPlace_26 rfl rfl rfl ?_
      refine fV_bipush (n := 6) (pc' := 29) G dX4_isPlace_27 rfl rfl ?_
      refine fV_callVf (st' := [.int (i32 (I 215 (13 + 19 * w + 6))), .int (i32 40), .long (i64 0), .long (i64 co)]) (n := 2) (k := 214) (K := 4) (As := [.int (i32 w), .int (i32 6)]) (rest := [.int (i32 40), .long (i64 0), .long (i64 co)]) (pc' := 32) G (mX4_of l Γ hN I P w (by omega) 6 (by omega)) kcX4_isPlace_37 (by omega) rfl rfl rfl rfl (Nat.le_of_ble_eq_true rfl) (Nat.zero_le _) (Nat.zero_le _) dX4_isPlace_29 rfl rfl ?_
      refine fV_isub (pc' := 33) G dX4_isPlace_32 rfl ?_
      refine fV_i2l (pc' := 34) G dX4_isPlace_33 rfl (by omega) ?_
      refine fV_callSf (st' := [.int (i32 (fB (sBetw co 0 (40 - (I 215 (13 + 19 * w + 6))))))]) (n := 3) (As := [.long (i64 co), .long (i64 0), .long (i64 (40 - (I 215 (13 + 19 * w + 6))))]) (rest := []) (pc' := 37) G (mX4_in l Γ hN I P co 0 (40 - (I 215 (13 + 19 * w + 6))) (by omega) (by omega) (by omega)) kcX4_isPlace_33 rfl rfl (Nat.le_of_ble_eq_true rfl) (Nat.zero_le _) (Nat.zero_le _) dX4_isPlace_34 rfl rfl ?_
      refine fV_ifeq_b (tgt := 44) (pc' := 40) G dX4_isPlace_37 (by decide) rfl (fun c3 => ?_) (fun c3 => ?_)
      · have d3 : ¬ (0 ≤ co ∧ co ≤ (40 - (I 215 (13 + 19 * w + 6)))) := of_decide_eq_false c3
        refine fV_iconst (pc' := 45) G dX4_isPlace_44 rfl ?_
        refine fV_zret (b := false) G dX4_isPlace_45 ?_
        exact fE_b (by first | (symm; exact decide_eq_true (by omega)) | (symm; exact decide_eq_false (by omega)))
      · have d3 : (0 ≤ co ∧ co ≤ (40 - (I 215 (13 + 19 * w + 6)))) := of_decide_eq_true c3
        refine fV_iconst (pc' := 41) G dX4_isPlace_40 rfl ?_
        refine fV_goto (tgt := 45) G dX4_isPlace_41 (by decide) ?_
        refine fV_zret (b := true) G dX4_isPlace_45 ?_
        exact fE_b (by first | (symm; exact decide_eq_true (by omega)) | (symm; exact decide_eq_false (by omega)))
set_option maxHeartbeats 4000000 in
set_option maxRecDepth 100000 in
theorem mX4_shotOf (l : Launch) (Γ : fG) {N : Nat} (hN : 220 ≤ N) (I : fM) (P : fN) (hm : mSv I) (f : Int) (h_f : -2147483648 ≤ f ∧ f ≤ 2147483647) : fMet l yX4_shotOf wsX4_shotOf rmX4_shotOf Γ N [.ref (Γ.1 214), .int (i32 f)] I P (fE (some (.int (i32 (qMShotOf I f)))) I P) := by
  refine fMet_of (own := RX4) (cc := cX4_shotOf) (maxL := 3) (ret := (some .int)) rfl (by decide +kernel) rfl (Nat.le_of_ble_eq_true rfl) ?_
  intro p e s m args below meth c G
  obtain ⟨hm1, hm2, hm3, hm4⟩ := id hm
  have hsh : ∀ i : Int, 0 ≤ i → i < I 215 1 → -2147483648 ≤ I 215 (3 + i) ∧ I 215 (3 + i) ≤ 2147483647 := fun i q1 q2 => by have := hm4 i q1 q2; omega
  refine fV_lv (lv' := [(0, .ref (Γ.1 214)), (1, .int (i32 f))]) [0, 1] rfl ?_
  refine fV_iconst (pc' := 1) G dX4_shotOf_0 rfl ?_
  refine fV_istore_n (lv' := [(2, .int (i32 0)), (0, .ref (Γ.1 214)), (1, .int (i32 f))]) (pc' := 2) G dX4_shotOf_1 rfl (by decide) rfl rfl ?_
  have lp : ∀ (z : Nat) (i : Int), 0 ≤ i ∧ i ≤ I 215 1 → i ≤ sF (fun i => I 215 (3 + i) = f) 0 (I 215 1) → ((I 215 1 - i).toNat) = z → fV p l e rmX4_shotOf s m args below meth c (MQ below (fQ Γ N (fE (some (.int (i32 (qMShotOf I f)))) I P)) args s 0 0 (fA Γ N)) (fA Γ N) Γ N 3 0 0 I P 2 [(0, .ref (Γ.1 214)), (1, .int (i32 f)), (2, .int (i32 i))] [] := by
    intro z
    induction z using Nat.strongRecOn with
    | _ z ih_lp =>
      intro i hi hR hz_lp
      refine fV_iload_n (pc' := 3) G 2 dX4_shotOf_2 rfl rfl rfl ?_
      refine fV_aload_n (pc' := 4) G 0 dX4_shotOf_3 rfl rfl rfl ?_
      refine fV_get (K := 4) (v := .ref (Γ.1 215)) (pc' := 7) G kfX4_shotOf_7 (by omega) rfl rfl rfl dX4_shotOf_4 rfl ?_
      refine fV_iconst (pc' := 8) G dX4_shotOf_7 rfl ?_
      refine fV_iald (K := 8) (n := 241) (pc' := 9) G (by omega) rfl (fun _ _ => rfl) (by decide) (by first | omega | exact hsh _ (by omega) (by omega)) dX4_shotOf_8 rfl ?_
      refine fV_icmp_ge (tgt := 32) (pc' := 12) G dX4_shotOf_9 (by decide) rfl (by first | omega | exact hsh _ (by omega) (by omega)) (by first | omega | exact hsh _ (by omega) (by omega)) (fun c101 => ?_) (fun c101 => ?_)
      · refine fV_bipush (n := -19) (pc' := 34) G dX4_shotOf_32 rfl rfl ?_
        refine fV_iret G dX4_shotOf_34 ?_
        exact fE_i (by unfold qMShotOf; first | (have e := isF_end (sF_is (c := (fun i => I 215 (3 + i) = f)) (a := 0) (b := I 215 1) (by omega)) hR (by omega); rw [e, if_neg (by omega)]; done) | (have e := isF_hit (sF_is (c := (fun i => I 215 (3 + i) = f)) (a := 0) (b := I 215 1) (by omega)) (by omega) hR (by (try dsimp only); omega); rw [e, if_pos (by omega)]))
      · refine fV_aload_n (pc' := 13) G 0 dX4_shotOf_12 rfl rfl rfl ?_
        refine fV_get (K := 4) (v := .ref (Γ.1 215)) (pc' := 16) G kfX4_shotOf_7 (by omega) rfl rfl rfl dX4_shotOf_13 rfl ?_
        refine fV_iconst (pc' := 17) G dX4_shotOf_16 rfl ?_
        refine fV_iload_n (pc' := 18) G 2 dX4_shotOf_17 rfl rfl rfl ?_
        refine fV_iadd (pc' := 19) G dX4_shotOf_18 rfl ?_
        refine fV_iald (K := 8) (n := 241) (pc' := 20) G (by omega) rfl (fun _ _ => rfl) (by decide) (by first | omega | exact hsh _ (by omega) (by omega)) dX4_shotOf_19 rfl ?_
        refine fV_iload_n (pc' := 21) G 1 dX4_shotOf_20 rfl rfl rfl ?_
        refine fV_icmp_ne (tgt := 26) (pc' := 24) G dX4_shotOf_21 (by decide) rfl (by first | omega | exact hsh _ (by omega) (by omega)) (by first | omega | exact hsh _ (by omega) (by omega)) (fun c102 => ?_) (fun c102 => ?_)
        · refine fV_iinc (lv' := [(2, .int (i32 (i + 1))), (0, .ref (Γ.1 214)), (1, .int (i32 f))]) (pc' := 29) G 2 dX4_shotOf_26 rfl (by decide) rfl rfl ?_
          refine fV_goto (tgt := 2) G dX4_shotOf_29 (by decide) ?_
          refine fV_lv (lv' := [(0, .ref (Γ.1 214)), (1, .int (i32 f)), (2, .int (i32 (i + 1)))]) [1, 2, 0] rfl ?_
          exact ih_lp _ (by omega) (i + 1) (by omega) (isF_step (sF_is (by omega)) hR (by omega) (by (try dsimp only); omega)) rfl
        · refine fV_iload_n (pc' := 25) G 2 dX4_shotOf_24 rfl rfl rfl ?_
          refine fV_iret G dX4_shotOf_25 ?_
          exact fE_i (by unfold qMShotOf; first | (have e := isF_end (sF_is (c := (fun i => I 215 (3 + i) = f)) (a := 0) (b := I 215 1) (by omega)) hR (by omega); rw [e, if_neg (by omega)]; done) | (have e := isF_hit (sF_is (c := (fun i => I 215 (3 + i) = f)) (a := 0) (b := I 215 1) (by omega)) (by omega) hR (by (try dsimp only); omega); rw [e, if_pos (by omega)]))
  refine fV_lv (lv' := [(0, .ref (Γ.1 214)), (1, .int (i32 f)), (2, .int (i32 0))]) [1, 2, 0] rfl ?_
  exact lp _ 0 (by omega) ((sF_is (by omega)).1.1) rfl
set_option maxHeartbeats 4000000 in
set_option maxRecDepth 100000 in
theorem mX4_makeShot (l : Launch) (Γ : fG) {N : Nat} (hN : 220 ≤ N) (I : fM) (P : fN) (hm : mSv I) (hn : I 215 1 < 10) (f : Int) (h_f : -2147483648 ≤ f ∧ f ≤ 2147483647) : fMet l yX4_makeShot wsX4_makeShot rmX4_makeShot Γ N [.ref (Γ.1 214), .int (i32 f)] I P (fE none (fup (fIns I 215 3 (I 215 1) (pIns (fun i => I 215 (3 + i)) f (I 215 1).toNat) f) 215 1 (I 215 1 + 1)) P) := by
  refine fMet_of (own := RX4) (cc := cX4_makeShot) (maxL := 3) (ret := none) rfl (by decide +kernel) rfl (Nat.le_of_ble_eq_true rfl) ?_
  intro p e s m args below meth c G
  obtain ⟨hm1, hm2, hm3, hm4⟩ := id hm
  have hsh : ∀ i : Int, 0 ≤ i → i < I 215 1 → 1 ≤ I 215 (3 + i) ∧ I 215 (3 + i) ≤ 3000 := hm4
  refine fV_lv (lv' := [(0, .ref (Γ.1 214)), (1, .int (i32 f))]) [0, 1] rfl ?_
  refine fV_aload_n (pc' := 1) G 0 dX4_makeShot_0 rfl rfl rfl ?_
  refine fV_get (K := 4) (v := .ref (Γ.1 215)) (pc' := 4) G kfX4_makeShot_7 (by omega) rfl rfl rfl dX4_makeShot_1 rfl ?_
  refine fV_iconst (pc' := 5) G dX4_makeShot_4 rfl ?_
  refine fV_iald (K := 8) (n := 241) (pc' := 6) G (by omega) rfl (fun _ _ => rfl) (by decide) (by omega) dX4_makeShot_5 rfl ?_
  refine fV_istore_n (lv' := [(2, .int (i32 (I 215 1))), (0, .ref (Γ.1 214)), (1, .int (i32 f))]) (pc' := 7) G dX4_makeShot_6 rfl (by decide) rfl rfl ?_
  have lp : ∀ (z : Nat) (k : Int) (J : fM), 0 ≤ k ∧ k ≤ I 215 1 → J = fMov I 215 3 (I 215 1) k → pIns (fun i => I 215 (3 + i)) f (I 215 1).toNat = pIns (fun i => I 215 (3 + i)) f k.toNat → (k.toNat) = z → fV p l e rmX4_makeShot s m args below meth c (MQ below (fQ Γ N (fE none (fup (fIns I 215 3 (I 215 1) (pIns (fun i => I 215 (3 + i)) f (I 215 1).toNat) f) 215 1 (I 215 1 + 1)) P)) args s 0 0 (fA Γ N)) (fA Γ N) Γ N 3 0 0 J P 7 [(0, .ref (Γ.1 214)), (1, .int (i32 f)), (2, .int (i32 k))] [] := by
    intro z
    induction z using Nat.strongRecOn with
    | _ z ih_lp =>
      intro k J hk hJ hp hz_lp
      refine fV_iload_n (pc' := 8) G 2 dX4_makeShot_7 rfl rfl rfl ?_
      refine fV_if_le (tgt := 49) (pc' := 11) G dX4_makeShot_8 (by decide) rfl (by omega) (fun c101 => ?_) (fun c101 => ?_)
      · refine fV_aload_n (pc' := 50) G 0 dX4_makeShot_49 rfl rfl rfl ?_
        refine fV_get (K := 4) (v := .ref (Γ.1 215)) (pc' := 53) G kfX4_makeShot_7 (by omega) rfl rfl rfl dX4_makeShot_50 rfl ?_
        refine fV_iconst (pc' := 54) G dX4_makeShot_53 rfl ?_
        refine fV_iload_n (pc' := 55) G 2 dX4_makeShot_54 rfl rfl rfl ?_
        refine fV_iadd (pc' := 56) G dX4_makeShot_55 rfl ?_
        refine fV_iload_n (pc' := 57) G 1 dX4_makeShot_56 rfl rfl rfl ?_
        refine fV_iast (K := 8) (n := 241) (pc' := 58) G (by omega) rfl (fun _ _ => rfl) (by decide) (by omega) dX4_makeShot_57 rfl (fun I102 eI102 => ?_)
        refine fV_aload_n (pc' := 59) G 0 dX4_makeShot_58 rfl rfl rfl ?_
        refine fV_get (K := 4) (v := .ref (Γ.1 215)) (pc' := 62) G kfX4_makeShot_7 (by omega) rfl rfl rfl dX4_makeShot_59 rfl ?_
        refine fV_iconst (pc' := 63) G dX4_makeShot_62 rfl ?_
        refine fV_dup2 (pc' := 64) G dX4_makeShot_63 rfl rfl rfl ?_
        refine fV_iald (K := 8) (n := 241) (pc' := 65) G (by omega) rfl (fun _ _ => rfl) (by decide) (by omega) dX4_makeShot_64 rfl ?_
        refine fV_top (b := I 215 1) (by rw [eI102, fup_j (by omega), hJ]; unfold fMov; rw [if_neg (by omega)]) ?_
        refine fV_iconst (pc' := 66) G dX4_makeShot_65 rfl ?_
        refine fV_iadd (pc' := 67) G dX4_makeShot_66 rfl ?_
        refine fV_iast (K := 8) (n := 241) (pc' := 68) G (by omega) rfl (fun _ _ => rfl) (by decide) (by omega) dX4_makeShot_67 rfl (fun I103 eI103 => ?_)
        refine fV_vret G dX4_makeShot_68 ?_
        have hpk : (pIns (fun i => I 215 (3 + i)) f (I 215 1).toNat : Int) = k := by rw [hp]; exact pIns_stop (by omega) (by first | (left; omega) | (right; (try dsimp only); rw [show 3 + (k - 1) = 3 + k - 1 by omega]; omega))
        exact fE_vm (by rw [eI103, eI102, hJ, fMov_e (by omega), hpk]) rfl
      · refine fV_aload_n (pc' := 12) G 0 dX4_makeShot_11 rfl rfl rfl ?_
        refine fV_get (K := 4) (v := .ref (Γ.1 215)) (pc' := 15) G kfX4_makeShot_7 (by omega) rfl rfl rfl dX4_makeShot_12 rfl ?_
        refine fV_iconst (pc' := 16) G dX4_makeShot_15 rfl ?_
        refine fV_iload_n (pc' := 17) G 2 dX4_makeShot_16 rfl rfl rfl ?_
        refine fV_iadd (pc' := 18) G dX4_makeShot_17 rfl ?_
        refine fV_iconst (pc' := 19) G dX4_makeShot_18 rfl ?_
        refine fV_isub (pc' := 20) G dX4_makeShot_19 rfl ?_
        refine fV_iald (K := 8) (n := 241) (pc' := 21) G (by omega) rfl (fun _ _ => rfl) (by decide) (by omega) dX4_makeShot_20 rfl ?_
        refine fV_top (b := I 215 (3 + k - 1)) (by rw [hJ]; unfold fMov; rw [if_neg (by omega)]) ?_
        have hsb := hsh (k - 1) (by omega) (by omega)
        rw [show 3 + (k - 1) = 3 + k - 1 by omega] at hsb
        refine fV_iload_n (pc' := 22) G 1 dX4_makeShot_21 rfl rfl rfl ?_
        refine fV_icmp_le (tgt := 49) (pc' := 25) G dX4_makeShot_22 (by decide) rfl (by omega) (by omega) (fun c102 => ?_) (fun c102 => ?_)
        · refine fV_aload_n (pc' := 50) G 0 dX4_makeShot_49 rfl rfl rfl ?_
          refine fV_get (K := 4) (v := .ref (Γ.1 215)) (pc' := 53) G kfX4_makeShot_7 (by omega) rfl rfl rfl dX4_makeShot_50 rfl ?_
          refine fV_iconst (pc' := 54) G dX4_makeShot_53 rfl ?_
          refine fV_iload_n (pc' := 55) G 2 dX4_makeShot_54 rfl rfl rfl ?_
          refine fV_iadd (pc' := 56) G dX4_makeShot_55 rfl ?_
          refine fV_iload_n (pc' := 57) G 1 dX4_makeShot_56 rfl rfl rfl ?_
          refine fV_iast (K := 8) (n := 241) (pc' := 58) G (by omega) rfl (fun _ _ => rfl) (by decide) (by omega) dX4_makeShot_57 rfl (fun I103 eI103 => ?_)
          refine fV_aload_n (pc' := 59) G 0 dX4_makeShot_58 rfl rfl rfl ?_
          refine fV_get (K := 4) (v := .ref (Γ.1 215)) (pc' := 62) G kfX4_makeShot_7 (by omega) rfl rfl rfl dX4_makeShot_59 rfl ?_
          refine fV_iconst (pc' := 63) G dX4_makeShot_62 rfl ?_
          refine fV_dup2 (pc' := 64) G dX4_makeShot_63 rfl rfl rfl ?_
          refine fV_iald (K := 8) (n := 241) (pc' := 65) G (by omega) rfl (fun _ _ => rfl) (by decide) (by omega) dX4_makeShot_64 rfl ?_
          refine fV_top (b := I 215 1) (by rw [eI103, fup_j (by omega), hJ]; unfold fMov; rw [if_neg (by omega)]) ?_
          refine fV_iconst (pc' := 66) G dX4_makeShot_65 rfl ?_
          refine fV_iadd (pc' := 67) G dX4_makeShot_66 rfl ?_
          refine fV_iast (K := 8) (n := 241) (pc' := 68) G (by omega) rfl (fun _ _ => rfl) (by decide) (by omega) dX4_makeShot_67 rfl (fun I104 eI104 => ?_)
          refine fV_vret G dX4_makeShot_68 ?_
          have hpk : (pIns (fun i => I 215 (3 + i)) f (I 215 1).toNat : Int) = k := by rw [hp]; exact pIns_stop (by omega) (by first | (left; omega) | (right; (try dsimp only); rw [show 3 + (k - 1) = 3 + k - 1 by omega]; omega))
          exact fE_vm (by rw [eI104, eI103, hJ, fMov_e (by omega), hpk]) rfl
        · refine fV_aload_n (pc' := 26) G 0 dX4_makeShot_25 rfl rfl rfl ?_
          refine fV_get (K := 4) (v := .ref (Γ.1 215)) (pc' := 29) G kfX4_makeShot_7 (by omega) rfl rfl rfl dX4_makeShot_26 rfl ?_
          refine fV_iconst (pc' := 30) G dX4_makeShot_29 rfl ?_
          refine fV_iload_n (pc' := 31) G 2 dX4_makeShot_30 rfl rfl rfl ?_
          refine fV_iadd (pc' := 32) G dX4_makeShot_31 rfl ?_
          refine fV_aload_n (pc' := 33) G 0 dX4_makeShot_32 rfl rfl rfl ?_
          refine fV_get (K := 4) (v := .ref (Γ.1 215)) (pc' := 36) G kfX4_makeShot_7 (by omega) rfl rfl rfl dX4_makeShot_33 rfl ?_
          refine fV_iconst (pc' := 37) G dX4_makeShot_36 rfl ?_
          refine fV_iload_n (pc' := 38) G 2 dX4_makeShot_37 rfl rfl rfl ?_
          refine fV_iadd (pc' := 39) G dX4_makeShot_38 rfl ?_
          refine fV_iconst (pc' := 40) G dX4_makeShot_39 rfl ?_
          refine fV_isub (pc' := 41) G dX4_makeShot_40 rfl ?_
          refine fV_iald (K := 8) (n := 241) (pc' := 42) G (by omega) rfl (fun _ _ => rfl) (by decide) (by omega) dX4_makeShot_41 rfl ?_
          refine fV_iast (K := 8) (n := 241) (pc' := 43) G (by omega) rfl (fun _ _ => rfl) (by decide) (by omega) dX4_makeShot_42 rfl (fun I103 eI103 => ?_)
          refine fV_iinc (lv' := [(2, .int (i32 (k + (-1)))), (0, .ref (Γ.1 214)), (1, .int (i32 f))]) (pc' := 46) G 2 dX4_makeShot_43 rfl (by decide) rfl rfl ?_
          refine fV_goto (tgt := 7) G dX4_makeShot_46 (by decide) ?_
          refine fV_lv (lv' := [(0, .ref (Γ.1 214)), (1, .int (i32 f)), (2, .int (i32 (k + (-1))))]) [1, 2, 0] rfl ?_
          exact ih_lp _ (by omega) (k + (-1)) I103 (by omega) (by rw [eI103, hJ]; exact fMov_d (by omega)) (by rw [hp, show k + (-1) = k - 1 by omega]; exact pIns_go (by omega) (by (try dsimp only); rw [show 3 + (k - 1) = 3 + k - 1 by omega]; omega)) rfl
  refine fV_lv (lv' := [(0, .ref (Γ.1 214)), (1, .int (i32 f)), (2, .int (i32 (I 215 1)))]) [1, 2, 0] rfl ?_
  exact lp _ (I 215 1) I (by omega) ((fMov_0 _ _ _ _).symm) rfl rfl
