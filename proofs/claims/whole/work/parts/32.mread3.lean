/-! CONTRACTS 5: the reference's public reads (rows laid by wip/whole/gen/con5.py) -/
set_option maxHeartbeats 4000000 in
set_option maxRecDepth 100000 in
theorem mX4_isFrame (l : Launch) (Γ : fG) {N : Nat} (hN : 220 ≤ N) (I : fM) (P : fN) (f : Int) (h_f : -2147483648 ≤ f ∧ f ≤ 2147483647) : fMet l yX4_isFrame wsX4_isFrame rmX4_isFrame Γ N [.int (i32 f)] I P (fE (some (.int (i32 (fB (sBetw f 0 4000))))) I P) := by
  refine fMet_of (own := RX4) (cc := cX4_isFrame) (maxL := 1) (ret := (some .boolean)) rfl (by decide +kernel) rfl (Nat.le_of_ble_eq_true rfl) ?_
  intro p e s m args below meth c G
  refine fV_lv (lv' := [(0, .int (i32 f))]) [0] rfl ?_
  refine fV_iload_n (pc' := 1) G 0 dX4_isFrame_0 rfl rfl rfl ?_
  refine fV_i2l (pc' := 2) G dX4_isFrame_1 rfl (by omega) ?_
  refine fV_lconst (v := 0) (pc' := 3) G dX4_isFrame_2 rfl rfl ?_
  refine fV_ldc2 (a := 4000) (pc' := 6) G klX4_isFrame_229 rfl dX4_isFrame_3 rfl ?_
  refine fV_callSf (st' := [.int (i32 (fB (sBetw f 0 4000)))]) (n := 3) (As := [.long (i64 f), .long (i64 0), .long (i64 4000)]) (rest := []) (pc' := 9) G (mX4_in l Γ hN I P f 0 4000 (by omega) (by omega) (by omega)) kcX4_isFrame_33 rfl rfl (Nat.le_of_ble_eq_true rfl) (Nat.zero_le _) (Nat.zero_le _) dX4_isFrame_6 rfl rfl ?_
  refine fV_zret G dX4_isFrame_9 ?_
  exact fE_b (by rfl)
set_option maxHeartbeats 4000000 in
set_option maxRecDepth 100000 in
theorem mX4_meetingPairs (l : Launch) (Γ : fG) {N : Nat} (hN : 220 ≤ N) (I : fM) (P : fN) (ho : mOk I) : fMet l yX4_meetingPairs wsX4_meetingPairs rmX4_meetingPairs Γ N [.ref (Γ.1 214)] I P (fE (some (.int (i32 (qMPairs I)))) I P) := by
  refine fMet_of (own := RX4) (cc := cX4_meetingPairs) (maxL := 4) (ret := (some .int)) rfl (by decide +kernel) rfl (Nat.le_of_ble_eq_true rfl) ?_
  intro p e s m args below meth c G
  obtain ⟨hm, hwm, hth, hsm, hle⟩ := id ho
  obtain ⟨hm1, hm2, hm3, hm4⟩ := id hm
  refine fV_lv (lv' := [(0, .ref (Γ.1 214))]) [0] rfl ?_
  refine fV_iconst (pc' := 1) G dX4_meetingPairs_0 rfl ?_
  refine fV_istore_n (lv' := [(1, .int (i32 0)), (0, .ref (Γ.1 214))]) (pc' := 2) G dX4_meetingPairs_1 rfl (by decide) rfl rfl ?_
  refine fV_iconst (pc' := 3) G dX4_meetingPairs_2 rfl ?_
  refine fV_istore_n (lv' := [(2, .int (i32 0)), (1, .int (i32 0)), (0, .ref (Γ.1 214))]) (pc' := 4) G dX4_meetingPairs_3 rfl (by decide) rfl rfl ?_
  have lpo : ∀ (z : Nat) (a : Int) (q : Int), 0 ≤ a ∧ a ≤ I 215 0 → q = sSum (fun a => sSum (fun b => if a < b ∧ mMet I a b ≠ -19 then 1 else 0) (I 215 0)) a → ((I 215 0 - a).toNat) = z → fV p l e rmX4_meetingPairs s m args below meth c (MQ below (fQ Γ N (fE (some (.int (i32 (qMPairs I)))) I P)) args s 0 0 (fA Γ N)) (fA Γ N) Γ N 4 0 0 I P 4 [(0, .ref (Γ.1 214)), (1, .int (i32 q)), (2, .int (i32 a))] [] := by
    intro z
    induction z using Nat.strongRecOn with
    | _ z ih_lpo =>
      intro a q ha hq hz_lpo
      refine fV_iload_n (pc' := 5) G 2 dX4_meetingPairs_4 rfl rfl rfl ?_
      refine fV_aload_n (pc' := 6) G 0 dX4_meetingPairs_5 rfl rfl rfl ?_
      refine fV_get (K := 4) (v := .ref (Γ.1 215)) (pc' := 9) G kfX4_meetingPairs_7 (by omega) rfl rfl rfl dX4_meetingPairs_6 rfl ?_
      refine fV_iconst (pc' := 10) G dX4_meetingPairs_9 rfl ?_
      refine fV_iald (K := 8) (n := 241) (pc' := 11) G (by omega) rfl (fun _ _ => rfl) (by decide) (by omega) dX4_meetingPairs_10 rfl ?_
      refine fV_icmp_ge (tgt := 59) (pc' := 14) G dX4_meetingPairs_11 (by decide) rfl (by omega) (by omega) (fun c101 => ?_) (fun c101 => ?_)
      · refine fV_iload_n (pc' := 60) G 1 dX4_meetingPairs_59 rfl rfl rfl ?_
        refine fV_iret G dX4_meetingPairs_60 ?_
        exact fE_i (by unfold qMPairs; rw [hq, show a = I 215 0 by omega])
      · refine fV_iload_n (pc' := 15) G 2 dX4_meetingPairs_14 rfl rfl rfl ?_
        refine fV_iconst (pc' := 16) G dX4_meetingPairs_15 rfl ?_
        refine fV_iadd (pc' := 17) G dX4_meetingPairs_16 rfl ?_
        refine fV_istore_n (lv' := [(3, .int (i32 (a + 1))), (0, .ref (Γ.1 214)), (1, .int (i32 q)), (2, .int (i32 a))]) (pc' := 18) G dX4_meetingPairs_17 rfl (by decide) rfl rfl ?_
        have lpi : ∀ (z : Nat) (b : Int) (t : Int), a + 1 ≤ b ∧ b ≤ I 215 0 → t = q + sSum (fun b => if a < b ∧ mMet I a b ≠ -19 then 1 else 0) b → ((I 215 0 - b).toNat) = z → fV p l e rmX4_meetingPairs s m args below meth c (MQ below (fQ Γ N (fE (some (.int (i32 (qMPairs I)))) I P)) args s 0 0 (fA Γ N)) (fA Γ N) Γ N 4 0 0 I P 18 [(0, .ref (Γ.1 214)), (1, .int (i32 t)), (2, .int (i32 a)), (3, .int (i32 b))] [] := by
          intro z
          induction z using Nat.strongRecOn with
          | _ z ih_lpi =>
            intro b t hb ht hz_lpi
            refine fV_iload_n (pc' := 19) G 3 dX4_meetingPairs_18 rfl rfl rfl ?_
            refine fV_aload_n (pc' := 20) G 0 dX4_meetingPairs_19 rfl rfl rfl ?_
            refine fV_get (K := 4) (v := .ref (Γ.1 215)) (pc' := 23) G kfX4_meetingPairs_7 (by omega) rfl rfl rfl dX4_meetingPairs_20 rfl ?_
            refine fV_iconst (pc' := 24) G dX4_meetingPairs_23 rfl ?_
            refine fV_iald (K := 8) (n := 241) (pc' := 25) G (by omega) rfl (fun _ _ => rfl) (by decide) (by omega) dX4_meetingPairs_24 rfl ?_
            refine fV_icmp_ge (tgt := 53) (pc' := 28) G dX4_meetingPairs_25 (by decide) rfl (by omega) (by omega) (fun c202 => ?_) (fun c202 => ?_)
            · refine fV_iinc (lv' := [(2, .int (i32 (a + 1))), (0, .ref (Γ.1 214)), (1, .int (i32 t)), (3, .int (i32 b))]) (pc' := 56) G 2 dX4_meetingPairs_53 rfl (by decide) rfl rfl ?_
              refine fV_goto (tgt := 4) G dX4_meetingPairs_56 (by decide) ?_
              refine fV_lv (lv' := [(0, .ref (Γ.1 214)), (1, .int (i32 t)), (2, .int (i32 (a + 1)))]) [1, 2, 0] rfl ?_
              exact ih_lpo _ (by omega) (a + 1) t (by omega) (by rw [sSum_s (by omega), ← hq, ht, show b = I 215 0 by omega]) rfl
            · refine fV_iload_n (pc' := 29) G 1 dX4_meetingPairs_28 rfl rfl rfl ?_
              refine fV_aload_n (pc' := 30) G 0 dX4_meetingPairs_29 rfl rfl rfl ?_
              refine fV_iload_n (pc' := 31) G 2 dX4_meetingPairs_30 rfl rfl rfl ?_
              refine fV_iload_n (pc' := 32) G 3 dX4_meetingPairs_31 rfl rfl rfl ?_
              refine fV_callVf (st' := [.int (i32 (sMetM (I 215 2) (I 215 1) (fun i => I 215 (3 + i)) (mR I a) (mR I b))), .int (i32 t)]) (n := 2) (k := 214) (K := 4) (As := [.int (i32 a), .int (i32 b)]) (rest := [.int (i32 t)]) (pc' := 35) G (mX4_meetingOf l Γ hN I P hm a (by omega) (hwm _ (by omega) (by omega)) b (by omega) (hwm _ (by omega) (by omega))) kcX4_meetingPairs_78 (by omega) rfl rfl rfl rfl (Nat.le_of_ble_eq_true rfl) (Nat.zero_le _) (Nat.zero_le _) dX4_meetingPairs_32 rfl rfl ?_
              have hmb := sMetM_b (pct := I 215 2) (n := I 215 1) (sh := (fun i => I 215 (3 + i))) (r := mR I a) (q := mR I b) (by have z1 := (hwm a (by omega) (by omega)).2.1; have z2 := (hwm b (by omega) (by omega)).2.1; dsimp only [mR] at *; omega) (by have z1 := (hwm a (by omega) (by omega)).2.1; dsimp only [mR] at *; omega)
              refine fV_bipush (n := -19) (pc' := 37) G dX4_meetingPairs_35 rfl rfl ?_
              refine fV_icmp_eq (tgt := 44) (pc' := 40) G dX4_meetingPairs_37 (by decide) rfl (by omega) (by decide) (fun c203 => ?_) (fun c203 => ?_)
              · have hmt := c203
                refine fV_iconst (pc' := 45) G dX4_meetingPairs_44 rfl ?_
                refine fV_iadd (pc' := 46) G dX4_meetingPairs_45 rfl ?_
                refine fV_istore_n (lv' := [(1, .int (i32 (t + 0))), (0, .ref (Γ.1 214)), (2, .int (i32 a)), (3, .int (i32 b))]) (pc' := 47) G dX4_meetingPairs_46 rfl (by decide) rfl rfl ?_
                refine fV_iinc (lv' := [(3, .int (i32 (b + 1))), (1, .int (i32 (t + 0))), (0, .ref (Γ.1 214)), (2, .int (i32 a))]) (pc' := 50) G 3 dX4_meetingPairs_47 rfl (by decide) rfl rfl ?_
                refine fV_goto (tgt := 18) G dX4_meetingPairs_50 (by decide) ?_
                refine fV_lv (lv' := [(0, .ref (Γ.1 214)), (1, .int (i32 (t + 0))), (2, .int (i32 a)), (3, .int (i32 (b + 1)))]) [2, 1, 3, 0] rfl ?_
                exact ih_lpi _ (by omega) (b + 1) (t + 0) (by omega) (by rw [sSum_s (by omega)]; (try dsimp only); first | (rw [if_pos ⟨by omega, hmt⟩]; omega) | (rw [if_neg (fun z => z.2 hmt)]; omega)) rfl
              · have hmt := c203
                refine fV_iconst (pc' := 41) G dX4_meetingPairs_40 rfl ?_
                refine fV_goto (tgt := 45) G dX4_meetingPairs_41 (by decide) ?_
                refine fV_iadd (pc' := 46) G dX4_meetingPairs_45 rfl ?_
                refine fV_istore_n (lv' := [(1, .int (i32 (t + 1))), (0, .ref (Γ.1 214)), (2, .int (i32 a)), (3, .int (i32 b))]) (pc' := 47) G dX4_meetingPairs_46 rfl (by decide) rfl rfl ?_
                refine fV_iinc (lv' := [(3, .int (i32 (b + 1))), (1, .int (i32 (t + 1))), (0, .ref (Γ.1 214)), (2, .int (i32 a))]) (pc' := 50) G 3 dX4_meetingPairs_47 rfl (by decide) rfl rfl ?_
                refine fV_goto (tgt := 18) G dX4_meetingPairs_50 (by decide) ?_
                refine fV_lv (lv' := [(0, .ref (Γ.1 214)), (1, .int (i32 (t + 1))), (2, .int (i32 a)), (3, .int (i32 (b + 1)))]) [2, 1, 3, 0] rfl ?_
                exact ih_lpi _ (by omega) (b + 1) (t + 1) (by omega) (by rw [sSum_s (by omega)]; (try dsimp only); first | (rw [if_pos ⟨by omega, hmt⟩]; omega) | (rw [if_neg (fun z => z.2 hmt)]; omega)) rfl
        refine fV_lv (lv' := [(0, .ref (Γ.1 214)), (1, .int (i32 q)), (2, .int (i32 a)), (3, .int (i32 (a + 1)))]) [1, 2, 3, 0] rfl ?_
        exact lpi _ (a + 1) q (by omega) (by rw [sPairs_0 (by omega)]; omega) rfl
  refine fV_lv (lv' := [(0, .ref (Γ.1 214)), (1, .int (i32 0)), (2, .int (i32 0))]) [2, 1, 0] rfl ?_
  exact lpo _ 0 0 (by omega) (by rw [sSum_0]) rfl
set_option maxHeartbeats 4000000 in
set_option maxRecDepth 100000 in
theorem mX4_lastOn (l : Launch) (Γ : fG) {N : Nat} (hN : 220 ≤ N) (I : fM) (P : fN) (ho : mOk I) (w : Int) (hw : 0 ≤ w ∧ w < I 215 0) : fMet l yX4_lastOn wsX4_lastOn rmX4_lastOn Γ N [.ref (Γ.1 214), .int (i32 w)] I P (fE (some (.int (i32 (qMLast I w)))) I P) := by
  refine fMet_of (own := RX4) (cc := cX4_lastOn) (maxL := 3) (ret := (some .int)) rfl (by decide +kernel) rfl (Nat.le_of_ble_eq_true rfl) ?_
  intro p e s m args below meth c G
  obtain ⟨hm, hwm, hth, hsm, hle⟩ := id ho
  obtain ⟨hm1, hm2, hm3, hm4⟩ := id hm
  have hw0 := (hwm w (by omega) (by omega)).2.1
  dsimp only [mR] at hw0
  refine fV_lv (lv' := [(0, .ref (Γ.1 214)), (1, .int (i32 w))]) [0, 1] rfl ?_
  refine fV_aload_n (pc' := 1) G 0 dX4_lastOn_0 rfl rfl rfl ?_
  refine fV_iload_n (pc' := 2) G 1 dX4_lastOn_1 rfl rfl rfl ?_
  refine fV_iconst (pc' := 3) G dX4_lastOn_2 rfl ?_
  refine fV_callVf (st' := [.int (i32 (I 215 (13 + 19 * w + 0)))]) (n := 2) (k := 214) (K := 4) (As := [.int (i32 w), .int (i32 0)]) (rest := []) (pc' := 6) G (mX4_of l Γ hN I P w (by omega) 0 (by omega)) kcX4_lastOn_37 (by omega) rfl rfl rfl rfl (Nat.le_of_ble_eq_true rfl) (Nat.zero_le _) (Nat.zero_le _) dX4_lastOn_3 rfl rfl ?_
  refine fV_istore_n (lv' := [(2, .int (i32 (I 215 (13 + 19 * w + 0)))), (0, .ref (Γ.1 214)), (1, .int (i32 w))]) (pc' := 7) G dX4_lastOn_6 rfl (by decide) rfl rfl ?_
  have lp : ∀ (z : Nat) (f : Int), 0 ≤ f ∧ f ≤ 4001 → f ≤ qMLast I w → I 215 (13 + 19 * w + 0) ≤ f → ((4001 - f).toNat) = z → fV p l e rmX4_lastOn s m args below meth c (MQ below (fQ Γ N (fE (some (.int (i32 (qMLast I w)))) I P)) args s 0 0 (fA Γ N)) (fA Γ N) Γ N 3 0 0 I P 7 [(0, .ref (Γ.1 214)), (1, .int (i32 w)), (2, .int (i32 f))] [] := by
    intro z
    induction z using Nat.strongRecOn with
    | _ z ih_lp =>
      intro f hf hR hf0 hz_lp
      refine fV_aload_n (pc' := 8) G 0 dX4_lastOn_7 rfl rfl rfl ?_
      refine fV_iload_n (pc' := 9) G 1 dX4_lastOn_8 rfl rfl rfl ?_
      refine fV_iload_n (pc' := 10) G 2 dX4_lastOn_9 rfl rfl rfl ?_
      refine fV_iconst (pc' := 11) G dX4_lastOn_10 rfl ?_
      refine fV_iadd (pc' := 12) G dX4_lastOn_11 rfl ?_
      refine fV_callVf (st' := [.int (i32 (fB (sOnB (I 215 2) (I 215 1) (fun i => I 215 (3 + i)) (mR I w) (f + 1))))]) (n := 2) (k := 214) (K := 4) (As := [.int (i32 w), .int (i32 (f + 1))]) (rest := []) (pc' := 15) G (mX4_isOn l Γ hN I P hm w (by omega) (hwm _ (by omega) (by omega)) (f + 1) (by omega)) kcX4_lastOn_64 (by omega) rfl rfl rfl rfl (Nat.le_of_ble_eq_true rfl) (Nat.zero_le _) (Nat.zero_le _) dX4_lastOn_12 rfl rfl ?_
      refine fV_ifeq_b (tgt := 24) (pc' := 18) G dX4_lastOn_15 (by decide) rfl (fun c101 => ?_) (fun c101 => ?_)
      · have hoff : mOn I w (f + 1) = false := c101
        refine fV_iload_n (pc' := 25) G 2 dX4_lastOn_24 rfl rfl rfl ?_
        refine fV_iret G dX4_lastOn_25 ?_
        exact fE_i (by exact (isF_hit (sF_is (c := fun f => ¬ mOn I w (f + 1) = true) (a := I 215 (13 + 19 * w + 0)) (b := 4001) (by omega)) hf0 hR (by rw [hoff]; exact fun z => by cases z)).symm)
      · have hon := c101
        have hlt := sOnB_lt hm4 hon
        refine fV_iinc (lv' := [(2, .int (i32 (f + 1))), (0, .ref (Γ.1 214)), (1, .int (i32 w))]) (pc' := 21) G 2 dX4_lastOn_18 rfl (by decide) rfl rfl ?_
        refine fV_goto (tgt := 7) G dX4_lastOn_21 (by decide) ?_
        refine fV_lv (lv' := [(0, .ref (Γ.1 214)), (1, .int (i32 w)), (2, .int (i32 (f + 1)))]) [1, 2, 0] rfl ?_
        exact ih_lp _ (by omega) (f + 1) (by omega) (isF_step (sF_is (by omega)) hR (by omega) (fun z => z hon)) (by omega) rfl
  refine fV_lv (lv' := [(0, .ref (Γ.1 214)), (1, .int (i32 w)), (2, .int (i32 (I 215 (13 + 19 * w + 0))))]) [1, 2, 0] rfl ?_
  exact lp _ (I 215 (13 + 19 * w + 0)) (by omega) ((qMLast_b (by omega)).1) (Int.le_refl _) rfl
set_option maxHeartbeats 4000000 in
set_option maxRecDepth 100000 in
theorem mX4_wordIn (l : Launch) (Γ : fG) {N : Nat} (hN : 220 ≤ N) (I : fM) (P : fN) (ho : mOk I) (row col f : Int) (hrow : 0 ≤ row ∧ row ≤ 7) (hcol : 0 ≤ col ∧ col ≤ 39) (hf : 0 ≤ f ∧ f ≤ 4000) : fMet l yX4_wordIn wsX4_wordIn rmX4_wordIn Γ N [.ref (Γ.1 214), .int (i32 row), .int (i32 col), .int (i32 f)] I P (fE (some (.int (i32 (qMIn I row col f)))) I P) := by
  refine fMet_of (own := RX4) (cc := cX4_wordIn) (maxL := 6) (ret := (some .int)) rfl (by decide +kernel) rfl (Nat.le_of_ble_eq_true rfl) ?_
  intro p e s m args below meth c G
  obtain ⟨hm, hwm, hth, hsm, hle⟩ := id ho
  obtain ⟨hm1, hm2, hm3, hm4⟩ := id hm
  refine fV_lv (lv' := [(0, .ref (Γ.1 214)), (1, .int (i32 row)), (2, .int (i32 col)), (3, .int (i32 f))]) [0, 1, 2, 3] rfl ?_
  refine fV_iconst (pc' := 1) G dX4_wordIn_0 rfl ?_
  refine fV_istore (lv' := [(4, .int (i32 0)), (0, .ref (Γ.1 214)), (1, .int (i32 row)), (2, .int (i32 col)), (3, .int (i32 f))]) (pc' := 3) G dX4_wordIn_1 (by decide) rfl rfl ?_
  have lp : ∀ (z : Nat) (w : Int), 0 ≤ w ∧ w ≤ I 215 0 → w ≤ sF (fun w => mHas I w row col f) 0 (I 215 0) → ((I 215 0 - w).toNat) = z → fV p l e rmX4_wordIn s m args below meth c (MQ below (fQ Γ N (fE (some (.int (i32 (qMIn I row col f)))) I P)) args s 0 0 (fA Γ N)) (fA Γ N) Γ N 6 0 0 I P 3 [(0, .ref (Γ.1 214)), (1, .int (i32 row)), (2, .int (i32 col)), (3, .int (i32 f)), (4, .int (i32 w))] [] := by
    intro z
    induction z using Nat.strongRecOn with
    | _ z ih_lp =>
      intro w hw hR hz_lp
      refine fV_iload (pc' := 5) G 4 dX4_wordIn_3 rfl rfl ?_
      refine fV_aload_n (pc' := 6) G 0 dX4_wordIn_5 rfl rfl rfl ?_
      refine fV_get (K := 4) (v := .ref (Γ.1 215)) (pc' := 9) G kfX4_wordIn_7 (by omega) rfl rfl rfl dX4_wordIn_6 rfl ?_
      refine fV_iconst (pc' := 10) G dX4_wordIn_9 rfl ?_
      refine fV_iald (K := 8) (n := 241) (pc' := 11) G (by omega) rfl (fun _ _ => rfl) (by decide) (by omega) dX4_wordIn_10 rfl ?_
      refine fV_icmp_ge (tgt := 78) (pc' := 14) G dX4_wordIn_11 (by decide) rfl (by omega) (by omega) (fun c101 => ?_) (fun c101 => ?_)
      · refine fV_bipush (n := -19) (pc' := 80) G dX4_wordIn_78 rfl rfl ?_
        refine fV_iret G dX4_wordIn_80 ?_
        exact fE_i (by unfold qMIn; have e := isF_end (sF_is (c := (fun w => mHas I w row col f)) (a := 0) (b := I 215 0) (by omega)) hR (by omega); rw [e, if_neg (by omega)])
      · have hww := hwm w (by omega) (by omega)
        have hrb := sRowM_b hm3 hww (f := f) (by omega)
        have hcb := sColM_b hm3 hww (f := f) (by omega)
        obtain ⟨hr1, hr2, hr3, hr4, hr5, hr6, hr7, hr8⟩ := id hww
        dsimp only [mR] at hr1 hr2 hr3 hr4 hr5 hr6 hr7 hr8
        refine fV_aload_n (pc' := 15) G 0 dX4_wordIn_14 rfl rfl rfl ?_
        refine fV_iload (pc' := 17) G 4 dX4_wordIn_15 rfl rfl ?_
        refine fV_iload_n (pc' := 18) G 3 dX4_wordIn_17 rfl rfl rfl ?_
        refine fV_callVf (st' := [.int (i32 (sColM (I 215 2) (mR I w) f))]) (n := 2) (k := 214) (K := 4) (As := [.int (i32 w), .int (i32 f)]) (rest := []) (pc' := 21) G (mX4_columnAt l Γ hN I P hm w (by omega) (hwm _ (by omega) (by omega)) f (by omega)) kcX4_wordIn_56 (by omega) rfl rfl rfl rfl (Nat.le_of_ble_eq_true rfl) (Nat.zero_le _) (Nat.zero_le _) dX4_wordIn_18 rfl rfl ?_
        refine fV_istore (lv' := [(5, .int (i32 (sColM (I 215 2) (mR I w) f))), (0, .ref (Γ.1 214)), (1, .int (i32 row)), (2, .int (i32 col)), (3, .int (i32 f)), (4, .int (i32 w))]) (pc' := 23) G dX4_wordIn_21 (by decide) rfl rfl ?_
        refine fV_aload_n (pc' := 24) G 1 dX4_wordIn_23 rfl rfl rfl ?_
        refine fV_iload (pc' := 26) G 5 dX4_wordIn_24 rfl rfl ?_
        refine fV_iload_n (pc' := 27) G 4 dX4_wordIn_26 rfl rfl rfl ?_
        refine fV_callVf (st' := [.int (i32 (fB (sOnB (I 215 2) (I 215 1) (fun i => I 215 (3 + i)) (mR I w) f)))]) (n := 2) (k := 214) (K := 4) (As := [.int (i32 w), .int (i32 f)]) (rest := []) (pc' := 30) G (mX4_isOn l Γ hN I P hm w (by omega) (hwm _ (by omega) (by omega)) f (by omega)) kcX4_wordIn_64 (by omega) rfl rfl rfl rfl (Nat.le_of_ble_eq_true rfl) (Nat.zero_le _) (Nat.zero_le _) dX4_wordIn_27 rfl rfl ?_
        refine fV_ifeq_b (tgt := 72) (pc' := 33) G dX4_wordIn_30 (by decide) rfl (fun c102 => ?_) (fun c102 => ?_)
        · have hno : ¬ mHas I w row col f := fun z => by have z1 : mOn I w f = true := z.1; rw [show mOn I w f = false from c102] at z1; cases z1
          refine fV_iinc (lv' := [(4, .int (i32 (w + 1))), (5, .int (i32 (sColM (I 215 2) (mR I w) f))), (0, .ref (Γ.1 214)), (1, .int (i32 row)), (2, .int (i32 col)), (3, .int (i32 f))]) (pc' := 75) G 5 dX4_wordIn_72 rfl (by decide) rfl rfl ?_
          refine fV_goto (tgt := 3) G dX4_wordIn_75 (by decide) ?_
          refine fV_lv (lv' := [(0, .ref (Γ.1 214)), (1, .int (i32 row)), (2, .int (i32 col)), (3, .int (i32 f)), (4, .int (i32 (w + 1)))]) [2, 3, 4, 5, 0] rfl ?_
          exact ih_lp _ (by omega) (w + 1) (by omega) (isF_step (sF_is (by omega)) hR (by omega) hno) rfl
        · have hon := c102
          refine fV_aload_n (pc' := 34) G 1 dX4_wordIn_33 rfl rfl rfl ?_
          refine fV_iload (pc' := 36) G 5 dX4_wordIn_34 rfl rfl ?_
          refine fV_iload_n (pc' := 37) G 4 dX4_wordIn_36 rfl rfl rfl ?_
          refine fV_callVf (st' := [.int (i32 (sRowM (I 215 2) (mR I w) f))]) (n := 2) (k := 214) (K := 4) (As := [.int (i32 w), .int (i32 f)]) (rest := []) (pc' := 40) G (mX4_rowAt l Γ hN I P hm w (by omega) (hwm _ (by omega) (by omega)) f (by omega)) kcX4_wordIn_59 (by omega) rfl rfl rfl rfl (Nat.le_of_ble_eq_true rfl) (Nat.zero_le _) (Nat.zero_le _) dX4_wordIn_37 rfl rfl ?_
          refine fV_iload_n (pc' := 41) G 2 dX4_wordIn_40 rfl rfl rfl ?_
          refine fV_icmp_ne (tgt := 72) (pc' := 44) G dX4_wordIn_41 (by decide) rfl (by omega) (by omega) (fun c103 => ?_) (fun c103 => ?_)
          · have hno : ¬ mHas I w row col f := fun z => c103 z.2.1
            refine fV_iinc (lv' := [(4, .int (i32 (w + 1))), (5, .int (i32 (sColM (I 215 2) (mR I w) f))), (0, .ref (Γ.1 214)), (1, .int (i32 row)), (2, .int (i32 col)), (3, .int (i32 f))]) (pc' := 75) G 5 dX4_wordIn_72 rfl (by decide) rfl rfl ?_
            refine fV_goto (tgt := 3) G dX4_wordIn_75 (by decide) ?_
            refine fV_lv (lv' := [(0, .ref (Γ.1 214)), (1, .int (i32 row)), (2, .int (i32 col)), (3, .int (i32 f)), (4, .int (i32 (w + 1)))]) [2, 3, 4, 5, 0] rfl ?_
            exact ih_lp _ (by omega) (w + 1) (by omega) (isF_step (sF_is (by omega)) hR (by omega) hno) rfl
          · have hrow := c103
            refine fV_iload_n (pc' := 45) G 3 dX4_wordIn_44 rfl rfl rfl ?_
            refine fV_i2l (pc' := 46) G dX4_wordIn_45 rfl (by omega) ?_
            refine fV_iload (pc' := 48) G 0 dX4_wordIn_46 rfl rfl ?_
            refine fV_i2l (pc' := 49) G dX4_wordIn_48 rfl (by omega) ?_
            refine fV_iload (pc' := 51) G 0 dX4_wordIn_49 rfl rfl ?_
            refine fV_aload_n (pc' := 52) G 1 dX4_wordIn_51 rfl rfl rfl ?_
            refine fV_iload (pc' := 54) G 5 dX4_wordIn_52 rfl rfl ?_
            refine fV_bipush (n := 6) (pc' := 56) G dX4_wordIn_54 rfl rfl ?_
            refine fV_callVf (st' := [.int (i32 (I 215 (13 + 19 * w + 6))), .int (i32 (sColM (I 215 2) (mR I w) f)), .long (i64 (sColM (I 215 2) (mR I w) f)), .long (i64 col)]) (n := 2) (k := 214) (K := 4) (As := [.int (i32 w), .int (i32 6)]) (rest := [.int (i32 (sColM (I 215 2) (mR I w) f)), .long (i64 (sColM (I 215 2) (mR I w) f)), .long (i64 col)]) (pc' := 59) G (mX4_of l Γ hN I P w (by omega) 6 (by omega)) kcX4_wordIn_37 (by omega) rfl rfl rfl rfl (Nat.le_of_ble_eq_true rfl) (Nat.zero_le _) (Nat.zero_le _) dX4_wordIn_56 rfl rfl ?_
            refine fV_iadd (pc' := 60) G dX4_wordIn_59 rfl ?_
            refine fV_iconst (pc' := 61) G dX4_wordIn_60 rfl ?_
            refine fV_isub (pc' := 62) G dX4_wordIn_61 rfl ?_
            refine fV_i2l (pc' := 63) G dX4_wordIn_62 rfl (by omega) ?_
            refine fV_callSf (st' := [.int (i32 (fB (sBetw col (sColM (I 215 2) (mR I w) f) (((sColM (I 215 2) (mR I w) f) + (I 215 (13 + 19 * w + 6))) - 1))))]) (n := 3) (As := [.long (i64 col), .long (i64 (sColM (I 215 2) (mR I w) f)), .long (i64 (((sColM (I 215 2) (mR I w) f) + (I 215 (13 + 19 * w + 6))) - 1))]) (rest := []) (pc' := 66) G (mX4_in l Γ hN I P col (sColM (I 215 2) (mR I w) f) (((sColM (I 215 2) (mR I w) f) + (I 215 (13 + 19 * w + 6))) - 1) (by omega) (by omega) (by omega)) kcX4_wordIn_33 rfl rfl (Nat.le_of_ble_eq_true rfl) (Nat.zero_le _) (Nat.zero_le _) dX4_wordIn_63 rfl rfl ?_
            refine fV_ifeq_b (tgt := 72) (pc' := 69) G dX4_wordIn_66 (by decide) rfl (fun c104 => ?_) (fun c104 => ?_)
            · have d104 : ¬ ((sColM (I 215 2) (mR I w) f) ≤ col ∧ col ≤ (((sColM (I 215 2) (mR I w) f) + (I 215 (13 + 19 * w + 6))) - 1)) := of_decide_eq_false c104
              have hno : ¬ mHas I w row col f := fun z => d104 ⟨z.2.2.1, z.2.2.2⟩
              refine fV_iinc (lv' := [(4, .int (i32 (w + 1))), (5, .int (i32 (sColM (I 215 2) (mR I w) f))), (0, .ref (Γ.1 214)), (1, .int (i32 row)), (2, .int (i32 col)), (3, .int (i32 f))]) (pc' := 75) G 5 dX4_wordIn_72 rfl (by decide) rfl rfl ?_
              refine fV_goto (tgt := 3) G dX4_wordIn_75 (by decide) ?_
              refine fV_lv (lv' := [(0, .ref (Γ.1 214)), (1, .int (i32 row)), (2, .int (i32 col)), (3, .int (i32 f)), (4, .int (i32 (w + 1)))]) [2, 3, 4, 5, 0] rfl ?_
              exact ih_lp _ (by omega) (w + 1) (by omega) (isF_step (sF_is (by omega)) hR (by omega) hno) rfl
            · have d104 : ((sColM (I 215 2) (mR I w) f) ≤ col ∧ col ≤ (((sColM (I 215 2) (mR I w) f) + (I 215 (13 + 19 * w + 6))) - 1)) := of_decide_eq_true c104
              have hyes : mHas I w row col f := ⟨hon, hrow, d104.1, d104.2⟩
              refine fV_iload (pc' := 71) G 5 dX4_wordIn_69 rfl rfl ?_
              refine fV_iret G dX4_wordIn_71 ?_
              exact fE_i (by unfold qMIn; have e := isF_hit (sF_is (c := (fun w => mHas I w row col f)) (a := 0) (b := I 215 0) (by omega)) (by omega) hR hyes; rw [e, if_pos (by omega)])
  refine fV_lv (lv' := [(0, .ref (Γ.1 214)), (1, .int (i32 row)), (2, .int (i32 col)), (3, .int (i32 f)), (4, .int (i32 0))]) [1, 2, 3, 4, 0] rfl ?_
  exact lp _ 0 (by omega) ((sF_is (by omega)).1.1) rfl
set_option maxHeartbeats 4000000 in
set_option maxRecDepth 100000 in
theorem mX4_count (l : Launch) (Γ : fG) {N : Nat} (hN : 220 ≤ N) (I : fM) (P : fN) (ho : mOk I) (what : Int) (h_what : -2147483648 ≤ what ∧ what ≤ 2147483647) : fMet l yX4_count wsX4_count rmX4_count Γ N [.ref (Γ.1 214), .int (i32 what)] I P (fE (some (.int (i32 (qMCount I what)))) I P) := by
  refine fMet_of (own := RX4) (cc := cX4_count) (maxL := 2) (ret := (some .int)) rfl (by decide +kernel) rfl (Nat.le_of_ble_eq_true rfl) ?_
  intro p e s m args below meth c G
  obtain ⟨hm, hwm, hth, hsm, hle⟩ := id ho
  obtain ⟨hm1, hm2, hm3, hm4⟩ := id hm
  refine fV_lv (lv' := [(0, .ref (Γ.1 214)), (1, .int (i32 what))]) [0, 1] rfl ?_
  refine fV_aload_n (pc' := 1) G 0 dX4_count_0 rfl rfl rfl ?_
  refine fV_iconst (pc' := 2) G dX4_count_1 rfl ?_
  refine fV_put (K := 4) (jj := 0) (x := 0) (v := .int (i32 0)) (ty := .int) (pc' := 5) G kfX4_count_26 (by omega) rfl rfl rfl kp4_0 rfl rfl (Nat.le_of_ble_eq_true rfl) dX4_count_2 rfl (fun I1 eI1 => ?_)
  refine fV_mem (I' := I) (P' := P) (by rw [eI1]; exact fup_id hth) rfl ?_
  refine fV_iload_n (pc' := 6) G 1 dX4_count_5 rfl rfl rfl ?_
  by_cases c2 : what = 0
  · refine fV_tableIn (off := 42) (tgt := 48) G dX4_count_6 (by omega) (by omega) (by omega) (by rw [c2]; rfl) (by decide) ?_
    refine fV_aload_n (pc' := 49) G 0 dX4_count_48 rfl rfl rfl ?_
    refine fV_get (K := 4) (v := .ref (Γ.1 215)) (pc' := 52) G kfX4_count_7 (by omega) rfl rfl rfl dX4_count_49 rfl ?_
    refine fV_iconst (pc' := 53) G dX4_count_52 rfl ?_
    refine fV_iald (K := 8) (n := 241) (pc' := 54) G (by omega) rfl (fun _ _ => rfl) (by decide) (by omega) dX4_count_53 rfl ?_
    refine fV_iret G dX4_count_54 ?_
    exact fE_i (by unfold qMCount; (split <;> first | rfl | omega | (split <;> first | rfl | omega | (split <;> first | rfl | omega | (split <;> first | rfl | omega | (split <;> first | rfl | omega | (split <;> first | rfl | omega | (split <;> first | rfl | omega))))))))
  by_cases c3 : what = 1
  · refine fV_tableIn (off := 49) (tgt := 55) G dX4_count_6 (by omega) (by omega) (by omega) (by rw [c3]; rfl) (by decide) ?_
    refine fV_aload_n (pc' := 56) G 0 dX4_count_55 rfl rfl rfl ?_
    refine fV_callVf (st' := [.int (i32 (sSum (fun i => if I 215 (13 + 19 * i + 4) ≠ -1 then 1 else 0) (I 215 0)))]) (n := 0) (k := 214) (K := 4) (As := []) (rest := []) (pc' := 59) G (mX4_putMany l Γ hN I P hm hwm) kcX4_count_211 (by omega) rfl rfl rfl rfl (Nat.le_of_ble_eq_true rfl) (Nat.zero_le _) (Nat.zero_le _) dX4_count_56 rfl rfl ?_
    refine fV_iret G dX4_count_59 ?_
    exact fE_i (by unfold qMCount; (split <;> first | rfl | omega | (split <;> first | rfl | omega | (split <;> first | rfl | omega | (split <;> first | rfl | omega | (split <;> first | rfl | omega | (split <;> first | rfl | omega | (split <;> first | rfl | omega))))))))
  by_cases c4 : what = 2
  · refine fV_tableIn (off := 54) (tgt := 60) G dX4_count_6 (by omega) (by omega) (by omega) (by rw [c4]; rfl) (by decide) ?_
    refine fV_aload_n (pc' := 61) G 0 dX4_count_60 rfl rfl rfl ?_
    refine fV_get (K := 4) (v := .ref (Γ.1 215)) (pc' := 64) G kfX4_count_7 (by omega) rfl rfl rfl dX4_count_61 rfl ?_
    refine fV_iconst (pc' := 65) G dX4_count_64 rfl ?_
    refine fV_iald (K := 8) (n := 241) (pc' := 66) G (by omega) rfl (fun _ _ => rfl) (by decide) (by omega) dX4_count_65 rfl ?_
    refine fV_iret G dX4_count_66 ?_
    exact fE_i (by unfold qMCount; (split <;> first | rfl | omega | (split <;> first | rfl | omega | (split <;> first | rfl | omega | (split <;> first | rfl | omega | (split <;> first | rfl | omega | (split <;> first | rfl | omega | (split <;> first | rfl | omega))))))))
  by_cases c5 : what = 3
  · refine fV_tableIn (off := 61) (tgt := 67) G dX4_count_6 (by omega) (by omega) (by omega) (by rw [c5]; rfl) (by decide) ?_
    refine fV_aload_n (pc' := 68) G 0 dX4_count_67 rfl rfl rfl ?_
    refine fV_get (K := 4) (v := .ref (Γ.1 215)) (pc' := 71) G kfX4_count_7 (by omega) rfl rfl rfl dX4_count_68 rfl ?_
    refine fV_iconst (pc' := 72) G dX4_count_71 rfl ?_
    refine fV_iald (K := 8) (n := 241) (pc' := 73) G (by omega) rfl (fun _ _ => rfl) (by decide) (by omega) dX4_count_72 rfl ?_
    refine fV_iret G dX4_count_73 ?_
    exact fE_i (by unfold qMCount; (split <;> first | rfl | omega | (split <;> first | rfl | omega | (split <;> first | rfl | omega | (split <;> first | rfl | omega | (split <;> first | rfl | omega | (split <;> first | rfl | omega | (split <;> first | rfl | omega))))))))
  by_cases c6 : what = 4
  · refine fV_tableIn (off := 68) (tgt := 74) G dX4_count_6 (by omega) (by omega) (by omega) (by rw [c6]; rfl) (by decide) ?_
    refine fV_aload_n (pc' := 75) G 0 dX4_count_74 rfl rfl rfl ?_
    refine fV_callVf (st' := [.int (i32 (qMPairs I))]) (n := 0) (k := 214) (K := 4) (As := []) (rest := []) (pc' := 78) G (mX4_meetingPairs l Γ hN I P ho) kcX4_count_223 (by omega) rfl rfl rfl rfl (Nat.le_of_ble_eq_true rfl) (Nat.zero_le _) (Nat.zero_le _) dX4_count_75 rfl rfl ?_
    refine fV_iret G dX4_count_78 ?_
    exact fE_i (by unfold qMCount; (split <;> first | rfl | omega | (split <;> first | rfl | omega | (split <;> first | rfl | omega | (split <;> first | rfl | omega | (split <;> first | rfl | omega | (split <;> first | rfl | omega | (split <;> first | rfl | omega))))))))
  by_cases c7 : what = 5
  · refine fV_tableIn (off := 73) (tgt := 79) G dX4_count_6 (by omega) (by omega) (by omega) (by rw [c7]; rfl) (by decide) ?_
    refine fV_aload_n (pc' := 80) G 0 dX4_count_79 rfl rfl rfl ?_
    refine fV_get (K := 4) (v := .int (i32 (I 214 4))) (pc' := 83) G kfX4_count_30 (by omega) rfl rfl rfl dX4_count_80 rfl ?_
    refine fV_iret G dX4_count_83 ?_
    exact fE_i (by unfold qMCount; (split <;> first | rfl | omega | (split <;> first | rfl | omega | (split <;> first | rfl | omega | (split <;> first | rfl | omega | (split <;> first | rfl | omega | (split <;> first | rfl | omega | (split <;> first | rfl | omega))))))))
  by_cases c8 : what = 6
  · refine fV_tableIn (off := 78) (tgt := 84) G dX4_count_6 (by omega) (by omega) (by omega) (by rw [c8]; rfl) (by decide) ?_
    refine fV_aload_n (pc' := 85) G 0 dX4_count_84 rfl rfl rfl ?_
    refine fV_get (K := 4) (v := .int (i32 (I 214 6))) (pc' := 88) G kfX4_count_124 (by omega) rfl rfl rfl dX4_count_85 rfl ?_
    refine fV_iret G dX4_count_88 ?_
    exact fE_i (by unfold qMCount; (split <;> first | rfl | omega | (split <;> first | rfl | omega | (split <;> first | rfl | omega | (split <;> first | rfl | omega | (split <;> first | rfl | omega | (split <;> first | rfl | omega | (split <;> first | rfl | omega))))))))
  refine fV_tableOut (tgt := 89) G dX4_count_6 (by omega) (by omega) (by decide) ?_
  refine fV_bipush (n := -11) (pc' := 91) G dX4_count_89 rfl rfl ?_
  refine fV_iret G dX4_count_91 ?_
  exact fE_i (by unfold qMCount; (split <;> first | rfl | omega | (split <;> first | rfl | omega | (split <;> first | rfl | omega | (split <;> first | rfl | omega | (split <;> first | rfl | omega | (split <;> first | rfl | omega | (split <;> first | rfl | omega))))))))
set_option maxHeartbeats 4000000 in
set_option maxRecDepth 100000 in
theorem mX4_letter (l : Launch) (Γ : fG) {N : Nat} (hN : 220 ≤ N) (I : fM) (P : fN) (ho : mOk I) (w i : Int) (h_w : -2147483648 ≤ w ∧ w ≤ 2147483647) (h_i : -2147483648 ≤ i ∧ i ≤ 2147483647) : fMet l yX4_letter wsX4_letter rmX4_letter Γ N [.ref (Γ.1 214), .int (i32 w), .int (i32 i)] I P (fE (some (.int (i32 (qMLetter I w i)))) I P) := by
  refine fMet_of (own := RX4) (cc := cX4_letter) (maxL := 3) (ret := (some .int)) rfl (by decide +kernel) rfl (Nat.le_of_ble_eq_true rfl) ?_
  intro p e s m args below meth c G
  obtain ⟨hm, hwm, hth, hsm, hle⟩ := id ho
  obtain ⟨hm1, hm2, hm3, hm4⟩ := id hm
  refine fV_lv (lv' := [(0, .ref (Γ.1 214)), (1, .int (i32 w)), (2, .int (i32 i))]) [0, 1, 2] rfl ?_
  refine fV_aload_n (pc' := 1) G 0 dX4_letter_0 rfl rfl rfl ?_
  refine fV_iconst (pc' := 2) G dX4_letter_1 rfl ?_
  refine fV_put (K := 4) (jj := 0) (x := 0) (v := .int (i32 0)) (ty := .int) (pc' := 5) G kfX4_letter_26 (by omega) rfl rfl rfl kp4_0 rfl rfl (Nat.le_of_ble_eq_true rfl) dX4_letter_2 rfl (fun I1 eI1 => ?_)
  refine fV_mem (I' := I) (P' := P) (by rw [eI1]; exact fup_id hth) rfl ?_
  refine fV_aload_n (pc' := 6) G 0 dX4_letter_5 rfl rfl rfl ?_
  refine fV_iload_n (pc' := 7) G 1 dX4_letter_6 rfl rfl rfl ?_
  refine fV_callVf (st' := [.int (i32 (fB (decide (0 ≤ w ∧ w < I 215 0))))]) (n := 1) (k := 214) (K := 4) (As := [.int (i32 w)]) (rest := []) (pc' := 10) G (mX4_isWord l Γ hN I P hm1 w (by omega)) kcX4_letter_103 (by omega) rfl rfl rfl rfl (Nat.le_of_ble_eq_true rfl) (Nat.zero_le _) (Nat.zero_le _) dX4_letter_7 rfl rfl ?_
  refine fV_ifeq_b (tgt := 17) (pc' := 13) G dX4_letter_10 (by decide) rfl (fun c2 => ?_) (fun c2 => ?_)
  · have d2 : ¬ (0 ≤ w ∧ w < I 215 0) := of_decide_eq_false c2
    refine fV_bipush (n := -11) (pc' := 19) G dX4_letter_17 rfl rfl ?_
    refine fV_iret G dX4_letter_19 ?_
    exact fE_i (by unfold qMLetter; (split <;> first | rfl | omega | (split <;> first | rfl | omega | (split <;> first | rfl | omega | (split <;> first | rfl | omega | (split <;> first | rfl | omega | (split <;> first | rfl | omega | (split <;> first | rfl | omega))))))))
  · have d2 : (0 ≤ w ∧ w < I 215 0) := of_decide_eq_true c2
    refine fV_iload_n (pc' := 14) G 2 dX4_letter_13 rfl rfl rfl ?_
    refine fV_if_ge (tgt := 20) (pc' := 17) G dX4_letter_14 (by decide) rfl (by omega) (fun c3 => ?_) (fun c3 => ?_)
    · have hw0 := (hwm w (by omega) (by omega)).1
      dsimp only [mR] at hw0
      refine fV_iload_n (pc' := 21) G 2 dX4_letter_20 rfl rfl rfl ?_
      refine fV_aload_n (pc' := 22) G 0 dX4_letter_21 rfl rfl rfl ?_
      refine fV_iload_n (pc' := 23) G 1 dX4_letter_22 rfl rfl rfl ?_
      refine fV_bipush (n := 6) (pc' := 25) G dX4_letter_23 rfl rfl ?_
      refine fV_callVf (st' := [.int (i32 (I 215 (13 + 19 * w + 6))), .int (i32 i)]) (n := 2) (k := 214) (K := 4) (As := [.int (i32 w), .int (i32 6)]) (rest := [.int (i32 i)]) (pc' := 28) G (mX4_of l Γ hN I P w (by omega) 6 (by omega)) kcX4_letter_37 (by omega) rfl rfl rfl rfl (Nat.le_of_ble_eq_true rfl) (Nat.zero_le _) (Nat.zero_le _) dX4_letter_25 rfl rfl ?_
      refine fV_icmp_ge (tgt := 43) (pc' := 31) G dX4_letter_28 (by decide) rfl (by omega) (by omega) (fun c4 => ?_) (fun c4 => ?_)
      · refine fV_bipush (n := -19) (pc' := 45) G dX4_letter_43 rfl rfl ?_
        refine fV_iret G dX4_letter_45 ?_
        exact fE_i (by unfold qMLetter; (split <;> first | rfl | omega | (split <;> first | rfl | omega | (split <;> first | rfl | omega | (split <;> first | rfl | omega | (split <;> first | rfl | omega | (split <;> first | rfl | omega | (split <;> first | rfl | omega))))))))
      · refine fV_aload_n (pc' := 32) G 0 dX4_letter_31 rfl rfl rfl ?_
        refine fV_iload_n (pc' := 33) G 1 dX4_letter_32 rfl rfl rfl ?_
        refine fV_bipush (n := 7) (pc' := 35) G dX4_letter_33 rfl rfl ?_
        refine fV_iload_n (pc' := 36) G 2 dX4_letter_35 rfl rfl rfl ?_
        refine fV_iadd (pc' := 37) G dX4_letter_36 rfl ?_
        refine fV_callVf (st' := [.int (i32 (I 215 (13 + 19 * w + (7 + i))))]) (n := 2) (k := 214) (K := 4) (As := [.int (i32 w), .int (i32 (7 + i))]) (rest := []) (pc' := 40) G (mX4_of l Γ hN I P w (by omega) (7 + i) (by omega)) kcX4_letter_37 (by omega) rfl rfl rfl rfl (Nat.le_of_ble_eq_true rfl) (Nat.zero_le _) (Nat.zero_le _) dX4_letter_37 rfl rfl ?_
        refine fV_goto (tgt := 45) G dX4_letter_40 (by decide) ?_
        refine fV_iret G dX4_letter_45 ?_
        exact fE_i (by unfold qMLetter; (split <;> first | rfl | omega | (split <;> first | rfl | omega | (split <;> first | rfl | omega | (split <;> first | rfl | omega | (split <;> first | rfl | omega | (split <;> first | rfl | omega | (split <;> first | rfl | omega))))))))
    · refine fV_bipush (n := -11) (pc' := 19) G dX4_letter_17 rfl rfl ?_
      refine fV_iret G dX4_letter_19 ?_
      exact fE_i (by unfold qMLetter; (split <;> first | rfl | omega | (split <;> first | rfl | omega | (split <;> first | rfl | omega | (split <;> first | rfl | omega | (split <;> first | rfl | omega | (split <;> first | rfl | omega | (split <;> first | rfl | omega))))))))
set_option maxHeartbeats 4000000 in
set_option maxRecDepth 100000 in
theorem mX4_shot (l : Launch) (Γ : fG) {N : Nat} (hN : 220 ≤ N) (I : fM) (P : fN) (ho : mOk I) (i : Int) (h_i : -2147483648 ≤ i ∧ i ≤ 2147483647) : fMet l yX4_shot wsX4_shot rmX4_shot Γ N [.ref (Γ.1 214), .int (i32 i)] I P (fE (some (.int (i32 (qMShot I i)))) I P) := by
  refine fMet_of (own := RX4) (cc := cX4_shot) (maxL := 2) (ret := (some .int)) rfl (by decide +kernel) rfl (Nat.le_of_ble_eq_true rfl) ?_
  intro p e s m args below meth c G
  obtain ⟨hm, hwm, hth, hsm, hle⟩ := id ho
  obtain ⟨hm1, hm2, hm3, hm4⟩ := id hm
  refine fV_lv (lv' := [(0, .ref (Γ.1 214)), (1, .int (i32 i))]) [0, 1] rfl ?_
  refine fV_aload_n (pc' := 1) G 0 dX4_shot_0 rfl rfl rfl ?_
  refine fV_iconst (pc' := 2) G dX4_shot_1 rfl ?_
  refine fV_put (K := 4) (jj := 0) (x := 0) (v := .int (i32 0)) (ty := .int) (pc' := 5) G kfX4_shot_26 (by omega) rfl rfl rfl kp4_0 rfl rfl (Nat.le_of_ble_eq_true rfl) dX4_shot_2 rfl (fun I1 eI1 => ?_)
  refine fV_mem (I' := I) (P' := P) (by rw [eI1]; exact fup_id hth) rfl ?_
  refine fV_iload_n (pc' := 6) G 1 dX4_shot_5 rfl rfl rfl ?_
  refine fV_if_ge (tgt := 14) (pc' := 9) G dX4_shot_6 (by decide) rfl (by omega) (fun c2 => ?_) (fun c2 => ?_)
  · refine fV_iload_n (pc' := 15) G 1 dX4_shot_14 rfl rfl rfl ?_
    refine fV_aload_n (pc' := 16) G 0 dX4_shot_15 rfl rfl rfl ?_
    refine fV_get (K := 4) (v := .ref (Γ.1 215)) (pc' := 19) G kfX4_shot_7 (by omega) rfl rfl rfl dX4_shot_16 rfl ?_
    refine fV_iconst (pc' := 20) G dX4_shot_19 rfl ?_
    refine fV_iald (K := 8) (n := 241) (pc' := 21) G (by omega) rfl (fun _ _ => rfl) (by decide) (by omega) dX4_shot_20 rfl ?_
    refine fV_icmp_ge (tgt := 35) (pc' := 24) G dX4_shot_21 (by decide) rfl (by omega) (by omega) (fun c3 => ?_) (fun c3 => ?_)
    · refine fV_bipush (n := -19) (pc' := 37) G dX4_shot_35 rfl rfl ?_
      refine fV_iret G dX4_shot_37 ?_
      exact fE_i (by unfold qMShot; (split <;> first | rfl | omega | (split <;> first | rfl | omega | (split <;> first | rfl | omega | (split <;> first | rfl | omega | (split <;> first | rfl | omega | (split <;> first | rfl | omega | (split <;> first | rfl | omega))))))))
    · refine fV_aload_n (pc' := 25) G 0 dX4_shot_24 rfl rfl rfl ?_
      refine fV_get (K := 4) (v := .ref (Γ.1 215)) (pc' := 28) G kfX4_shot_7 (by omega) rfl rfl rfl dX4_shot_25 rfl ?_
      refine fV_iconst (pc' := 29) G dX4_shot_28 rfl ?_
      refine fV_iload_n (pc' := 30) G 1 dX4_shot_29 rfl rfl rfl ?_
      refine fV_iadd (pc' := 31) G dX4_shot_30 rfl ?_
      refine fV_iald (K := 8) (n := 241) (pc' := 32) G (by omega) rfl (fun _ _ => rfl) (by decide) (by omega) dX4_shot_31 rfl ?_
      refine fV_goto (tgt := 37) G dX4_shot_32 (by decide) ?_
      refine fV_iret G dX4_shot_37 ?_
      exact fE_i (by unfold qMShot; (split <;> first | rfl | omega | (split <;> first | rfl | omega | (split <;> first | rfl | omega | (split <;> first | rfl | omega | (split <;> first | rfl | omega | (split <;> first | rfl | omega | (split <;> first | rfl | omega))))))))
  · refine fV_bipush (n := -11) (pc' := 11) G dX4_shot_9 rfl rfl ?_
    refine fV_goto (tgt := 37) G dX4_shot_11 (by decide) ?_
    refine fV_iret G dX4_shot_37 ?_
    exact fE_i (by unfold qMShot; (split <;> first | rfl | omega | (split <;> first | rfl | omega | (split <;> first | rfl | omega | (split <;> first | rfl | omega | (split <;> first | rfl | omega | (split <;> first | rfl | omega | (split <;> first | rfl | omega))))))))
set_option maxHeartbeats 4000000 in
set_option maxRecDepth 100000 in
theorem mX4_word (l : Launch) (Γ : fG) {N : Nat} (hN : 220 ≤ N) (I : fM) (P : fN) (ho : mOk I) (w what : Int) (h_w : -2147483648 ≤ w ∧ w ≤ 2147483647) (h_what : -2147483648 ≤ what ∧ what ≤ 2147483647) : fMet l yX4_word wsX4_word rmX4_word Γ N [.ref (Γ.1 214), .int (i32 w), .int (i32 what)] I P (fE (some (.int (i32 (qMWord I w what)))) I P) := by
  refine fMet_of (own := RX4) (cc := cX4_word) (maxL := 3) (ret := (some .int)) rfl (by decide +kernel) rfl (Nat.le_of_ble_eq_true rfl) ?_
  intro p e s m args below meth c G
  obtain ⟨hm, hwm, hth, hsm, hle⟩ := id ho
  obtain ⟨hm1, hm2, hm3, hm4⟩ := id hm
  refine fV_lv (lv' := [(0, .ref (Γ.1 214)), (1, .int (i32 w)), (2, .int (i32 what))]) [0, 1, 2] rfl ?_
  refine fV_aload_n (pc' := 1) G 0 dX4_word_0 rfl rfl rfl ?_
  refine fV_iconst (pc' := 2) G dX4_word_1 rfl ?_
  refine fV_put (K := 4) (jj := 0) (x := 0) (v := .int (i32 0)) (ty := .int) (pc' := 5) G kfX4_word_26 (by omega) rfl rfl rfl kp4_0 rfl rfl (Nat.le_of_ble_eq_true rfl) dX4_word_2 rfl (fun I1 eI1 => ?_)
  refine fV_mem (I' := I) (P' := P) (by rw [eI1]; exact fup_id hth) rfl ?_
  refine fV_aload_n (pc' := 6) G 0 dX4_word_5 rfl rfl rfl ?_
  refine fV_iload_n (pc' := 7) G 1 dX4_word_6 rfl rfl rfl ?_
  refine fV_callVf (st' := [.int (i32 (fB (decide (0 ≤ w ∧ w < I 215 0))))]) (n := 1) (k := 214) (K := 4) (As := [.int (i32 w)]) (rest := []) (pc' := 10) G (mX4_isWord l Γ hN I P hm1 w (by omega)) kcX4_word_103 (by omega) rfl rfl rfl rfl (Nat.le_of_ble_eq_true rfl) (Nat.zero_le _) (Nat.zero_le _) dX4_word_7 rfl rfl ?_
  refine fV_ifeq_b (tgt := 25) (pc' := 13) G dX4_word_10 (by decide) rfl (fun c2 => ?_) (fun c2 => ?_)
  · have d2 : ¬ (0 ≤ w ∧ w < I 215 0) := of_decide_eq_false c2
    refine fV_bipush (n := -11) (pc' := 27) G dX4_word_25 rfl rfl ?_
    refine fV_iret G dX4_word_27 ?_
    exact fE_i (by unfold qMWord; (split <;> first | rfl | omega | (split <;> first | rfl | omega | (split <;> first | rfl | omega | (split <;> first | rfl | omega | (split <;> first | rfl | omega | (split <;> first | rfl | omega | (split <;> first | rfl | omega))))))))
  · have d2 : (0 ≤ w ∧ w < I 215 0) := of_decide_eq_true c2
    refine fV_iload_n (pc' := 14) G 2 dX4_word_13 rfl rfl rfl ?_
    refine fV_i2l (pc' := 15) G dX4_word_14 rfl (by omega) ?_
    refine fV_lconst (v := 0) (pc' := 16) G dX4_word_15 rfl rfl ?_
    refine fV_ldc2 (a := 7) (pc' := 19) G klX4_word_62 rfl dX4_word_16 rfl ?_
    refine fV_callSf (st' := [.int (i32 (fB (sBetw what 0 7)))]) (n := 3) (As := [.long (i64 what), .long (i64 0), .long (i64 7)]) (rest := []) (pc' := 22) G (mX4_in l Γ hN I P what 0 7 (by omega) (by omega) (by omega)) kcX4_word_33 rfl rfl (Nat.le_of_ble_eq_true rfl) (Nat.zero_le _) (Nat.zero_le _) dX4_word_19 rfl rfl ?_
    refine fV_ifne_b (tgt := 28) (pc' := 25) G dX4_word_22 (by decide) rfl (fun c3 => ?_) (fun c3 => ?_)
    · have d3 : (0 ≤ what ∧ what ≤ 7) := of_decide_eq_true c3
      have hww := hwm w (by omega) (by omega)
      obtain ⟨hr1, hr2, hr3, hr4, hr5, hr6, hr7, hr8⟩ := id hww
      dsimp only [mR] at hr1 hr2 hr3 hr4 hr5 hr6 hr7 hr8
      refine fV_iload_n (pc' := 29) G 2 dX4_word_28 rfl rfl rfl ?_
      refine fV_bipush (n := 7) (pc' := 31) G dX4_word_29 rfl rfl ?_
      refine fV_icmp_ne (tgt := 42) (pc' := 34) G dX4_word_31 (by decide) rfl (by omega) (by decide) (fun c4 => ?_) (fun c4 => ?_)
      · refine fV_iload_n (pc' := 43) G 2 dX4_word_42 rfl rfl rfl ?_
        refine fV_iconst (pc' := 44) G dX4_word_43 rfl ?_
        refine fV_icmp_le (tgt := 58) (pc' := 47) G dX4_word_44 (by decide) rfl (by omega) (by decide) (fun c5 => ?_) (fun c5 => ?_)
        · refine fV_iload_n (pc' := 59) G 2 dX4_word_58 rfl rfl rfl ?_
          refine fV_bipush (n := 6) (pc' := 61) G dX4_word_59 rfl rfl ?_
          refine fV_icmp_ne (tgt := 72) (pc' := 64) G dX4_word_61 (by decide) rfl (by omega) (by decide) (fun c6 => ?_) (fun c6 => ?_)
          · refine fV_aload_n (pc' := 73) G 0 dX4_word_72 rfl rfl rfl ?_
            refine fV_iload_n (pc' := 74) G 1 dX4_word_73 rfl rfl rfl ?_
            refine fV_iload_n (pc' := 75) G 2 dX4_word_74 rfl rfl rfl ?_
            refine fV_callVf (st' := [.int (i32 (I 215 (13 + 19 * w + what)))]) (n := 2) (k := 214) (K := 4) (As := [.int (i32 w), .int (i32 what)]) (rest := []) (pc' := 78) G (mX4_of l Γ hN I P w (by omega) what (by omega)) kcX4_word_37 (by omega) rfl rfl rfl rfl (Nat.le_of_ble_eq_true rfl) (Nat.zero_le _) (Nat.zero_le _) dX4_word_75 rfl rfl ?_
            refine fV_iret G dX4_word_78 ?_
            exact fE_i (by unfold qMWord; (split <;> first | rfl | omega | (split <;> first | rfl | omega | (split <;> first | rfl | omega | (split <;> first | rfl | omega | (split <;> first | rfl | omega | (split <;> first | rfl | omega | (split <;> first | rfl | omega))))))))
          · refine fV_aload_n (pc' := 65) G 0 dX4_word_64 rfl rfl rfl ?_
            refine fV_iload_n (pc' := 66) G 1 dX4_word_65 rfl rfl rfl ?_
            refine fV_callVf (st' := [.int (i32 (qMLast I w))]) (n := 1) (k := 214) (K := 4) (As := [.int (i32 w)]) (rest := []) (pc' := 69) G (mX4_lastOn l Γ hN I P ho w (by omega)) kcX4_word_226 (by omega) rfl rfl rfl rfl (Nat.le_of_ble_eq_true rfl) (Nat.zero_le _) (Nat.zero_le _) dX4_word_66 rfl rfl ?_
            refine fV_goto (tgt := 78) G dX4_word_69 (by decide) ?_
            refine fV_iret G dX4_word_78 ?_
            exact fE_i (by unfold qMWord; (split <;> first | rfl | omega | (split <;> first | rfl | omega | (split <;> first | rfl | omega | (split <;> first | rfl | omega | (split <;> first | rfl | omega | (split <;> first | rfl | omega | (split <;> first | rfl | omega))))))))
        · refine fV_aload_n (pc' := 48) G 0 dX4_word_47 rfl rfl rfl ?_
          refine fV_iload_n (pc' := 49) G 1 dX4_word_48 rfl rfl rfl ?_
          refine fV_callVf (st' := [.int (i32 (fB (decide (I 215 (13 + 19 * w + 4) ≠ -1))))]) (n := 1) (k := 214) (K := 4) (As := [.int (i32 w)]) (rest := []) (pc' := 52) G (mX4_isPut l Γ hN I P w (by omega) ((hwm _ (by omega) (by omega)).2.2.2.2.2.1)) kcX4_word_41 (by omega) rfl rfl rfl rfl (Nat.le_of_ble_eq_true rfl) (Nat.zero_le _) (Nat.zero_le _) dX4_word_49 rfl rfl ?_
          refine fV_ifne_b (tgt := 58) (pc' := 55) G dX4_word_52 (by decide) rfl (fun c6 => ?_) (fun c6 => ?_)
          · have d6 : (I 215 (13 + 19 * w + 4) ≠ -1) := of_decide_eq_true c6
            refine fV_iload_n (pc' := 59) G 2 dX4_word_58 rfl rfl rfl ?_
            refine fV_bipush (n := 6) (pc' := 61) G dX4_word_59 rfl rfl ?_
            refine fV_icmp_ne (tgt := 72) (pc' := 64) G dX4_word_61 (by decide) rfl (by omega) (by decide) (fun c7 => ?_) (fun c7 => ?_)
            · refine fV_aload_n (pc' := 73) G 0 dX4_word_72 rfl rfl rfl ?_
              refine fV_iload_n (pc' := 74) G 1 dX4_word_73 rfl rfl rfl ?_
              refine fV_iload_n (pc' := 75) G 2 dX4_word_74 rfl rfl rfl ?_
              refine fV_callVf (st' := [.int (i32 (I 215 (13 + 19 * w + what)))]) (n := 2) (k := 214) (K := 4) (As := [.int (i32 w), .int (i32 what)]) (rest := []) (pc' := 78) G (mX4_of l Γ hN I P w (by omega) what (by omega)) kcX4_word_37 (by omega) rfl rfl rfl rfl (Nat.le_of_ble_eq_true rfl) (Nat.zero_le _) (Nat.zero_le _) dX4_word_75 rfl rfl ?_
              refine fV_iret G dX4_word_78 ?_
              exact fE_i (by unfold qMWord; (split <;> first | rfl | omega | (split <;> first | rfl | omega | (split <;> first | rfl | omega | (split <;> first | rfl | omega | (split <;> first | rfl | omega | (split <;> first | rfl | omega | (split <;> first | rfl | omega))))))))
            · refine fV_aload_n (pc' := 65) G 0 dX4_word_64 rfl rfl rfl ?_
              refine fV_iload_n (pc' := 66) G 1 dX4_word_65 rfl rfl rfl ?_
              refine fV_callVf (st' := [.int (i32 (qMLast I w))]) (n := 1) (k := 214) (K := 4) (As := [.int (i32 w)]) (rest := []) (pc' := 69) G (mX4_lastOn l Γ hN I P ho w (by omega)) kcX4_word_226 (by omega) rfl rfl rfl rfl (Nat.le_of_ble_eq_true rfl) (Nat.zero_le _) (Nat.zero_le _) dX4_word_66 rfl rfl ?_
              refine fV_goto (tgt := 78) G dX4_word_69 (by decide) ?_
              refine fV_iret G dX4_word_78 ?_
              exact fE_i (by unfold qMWord; (split <;> first | rfl | omega | (split <;> first | rfl | omega | (split <;> first | rfl | omega | (split <;> first | rfl | omega | (split <;> first | rfl | omega | (split <;> first | rfl | omega | (split <;> first | rfl | omega))))))))
          · have d6 : ¬ (I 215 (13 + 19 * w + 4) ≠ -1) := of_decide_eq_false c6
            refine fV_bipush (n := -19) (pc' := 57) G dX4_word_55 rfl rfl ?_
            refine fV_iret G dX4_word_57 ?_
            exact fE_i (by unfold qMWord; (split <;> first | rfl | omega | (split <;> first | rfl | omega | (split <;> first | rfl | omega | (split <;> first | rfl | omega | (split <;> first | rfl | omega | (split <;> first | rfl | omega | (split <;> first | rfl | omega))))))))
      · refine fV_aload_n (pc' := 35) G 0 dX4_word_34 rfl rfl rfl ?_
        refine fV_iload_n (pc' := 36) G 1 dX4_word_35 rfl rfl rfl ?_
        refine fV_bipush (n := 6) (pc' := 38) G dX4_word_36 rfl rfl ?_
        refine fV_callVf (st' := [.int (i32 (I 215 (13 + 19 * w + 6)))]) (n := 2) (k := 214) (K := 4) (As := [.int (i32 w), .int (i32 6)]) (rest := []) (pc' := 41) G (mX4_of l Γ hN I P w (by omega) 6 (by omega)) kcX4_word_37 (by omega) rfl rfl rfl rfl (Nat.le_of_ble_eq_true rfl) (Nat.zero_le _) (Nat.zero_le _) dX4_word_38 rfl rfl ?_
        refine fV_iret G dX4_word_41 ?_
        exact fE_i (by unfold qMWord; (split <;> first | rfl | omega | (split <;> first | rfl | omega | (split <;> first | rfl | omega | (split <;> first | rfl | omega | (split <;> first | rfl | omega | (split <;> first | rfl | omega | (split <;> first | rfl | omega))))))))
    · have d3 : ¬ (0 ≤ what ∧ what ≤ 7) := of_decide_eq_false c3
      refine fV_bipush (n := -11) (pc' := 27) G dX4_word_25 rfl rfl ?_
      refine fV_iret G dX4_word_27 ?_
      exact fE_i (by unfold qMWord; (split <;> first | rfl | omega | (split <;> first | rfl | omega | (split <;> first | rfl | omega | (split <;> first | rfl | omega | (split <;> first | rfl | omega | (split <;> first | rfl | omega | (split <;> first | rfl | omega))))))))
set_option maxHeartbeats 4000000 in
set_option maxRecDepth 100000 in
theorem mX4_where (l : Launch) (Γ : fG) {N : Nat} (hN : 220 ≤ N) (I : fM) (P : fN) (ho : mOk I) (w f what : Int) (h_w : -2147483648 ≤ w ∧ w ≤ 2147483647) (h_f : -2147483648 ≤ f ∧ f ≤ 2147483647) (h_what : -2147483648 ≤ what ∧ what ≤ 2147483647) : fMet l yX4_where wsX4_where rmX4_where Γ N [.ref (Γ.1 214), .int (i32 w), .int (i32 f), .int (i32 what)] I P (fE (some (.int (i32 (qMWhere I w f what)))) I P) := by
  refine fMet_of (own := RX4) (cc := cX4_where) (maxL := 5) (ret := (some .int)) rfl (by decide +kernel) rfl (Nat.le_of_ble_eq_true rfl) ?_
  intro p e s m args below meth c G
  obtain ⟨hm, hwm, hth, hsm, hle⟩ := id ho
  obtain ⟨hm1, hm2, hm3, hm4⟩ := id hm
  refine fV_lv (lv' := [(0, .ref (Γ.1 214)), (1, .int (i32 w)), (2, .int (i32 f)), (3, .int (i32 what))]) [0, 1, 2, 3] rfl ?_
  refine fV_aload_n (pc' := 1) G 0 dX4_where_0 rfl rfl rfl ?_
  refine fV_iconst (pc' := 2) G dX4_where_1 rfl ?_
  refine fV_put (K := 4) (jj := 0) (x := 0) (v := .int (i32 0)) (ty := .int) (pc' := 5) G kfX4_where_26 (by omega) rfl rfl rfl kp4_0 rfl rfl (Nat.le_of_ble_eq_true rfl) dX4_where_2 rfl (fun I1 eI1 => ?_)
  refine fV_mem (I' := I) (P' := P) (by rw [eI1]; exact fup_id hth) rfl ?_
  refine fV_aload_n (pc' := 6) G 0 dX4_where_5 rfl rfl rfl ?_
  refine fV_iload_n (pc' := 7) G 1 dX4_where_6 rfl rfl rfl ?_
  refine fV_callVf (st' := [.int (i32 (fB (decide (0 ≤ w ∧ w < I 215 0))))]) (n := 1) (k := 214) (K := 4) (As := [.int (i32 w)]) (rest := []) (pc' := 10) G (mX4_isWord l Γ hN I P hm1 w (by omega)) kcX4_where_103 (by omega) rfl rfl rfl rfl (Nat.le_of_ble_eq_true rfl) (Nat.zero_le _) (Nat.zero_le _) dX4_where_7 rfl rfl ?_
  refine fV_ifeq_b (tgt := 30) (pc' := 13) G dX4_where_10 (by decide) rfl (fun c2 => ?_) (fun c2 => ?_)
  · have d2 : ¬ (0 ≤ w ∧ w < I 215 0) := of_decide_eq_false c2
    refine fV_bipush (n := -11) (pc' := 32) G dX4_where_30 rfl rfl ?_
    refine fV_iret G dX4_where_32 ?_
    exact fE_i (by unfold qMWhere; first | (rw [if_neg (by omega)]; done) | (rw [if_pos (by omega)]; first | (rw [if_neg (by rw [hon]; decide)]; done) | (rw [if_pos hon]; (split <;> first | rfl | omega | (split <;> first | rfl | omega | (split <;> first | rfl | omega | (split <;> first | rfl | omega | (split <;> first | rfl | omega | (split <;> first | rfl | omega | (split <;> first | rfl | omega))))))))))
  · have d2 : (0 ≤ w ∧ w < I 215 0) := of_decide_eq_true c2
    refine fV_iload_n (pc' := 14) G 2 dX4_where_13 rfl rfl rfl ?_
    refine fV_callSf (st' := [.int (i32 (fB (sBetw f 0 4000)))]) (n := 1) (As := [.int (i32 f)]) (rest := []) (pc' := 17) G (mX4_isFrame l Γ hN I P f (by omega)) kcX4_where_231 rfl rfl (Nat.le_of_ble_eq_true rfl) (Nat.zero_le _) (Nat.zero_le _) dX4_where_14 rfl rfl ?_
    refine fV_ifeq_b (tgt := 30) (pc' := 20) G dX4_where_17 (by decide) rfl (fun c3 => ?_) (fun c3 => ?_)
    · have d3 : ¬ (0 ≤ f ∧ f ≤ 4000) := of_decide_eq_false c3
      refine fV_bipush (n := -11) (pc' := 32) G dX4_where_30 rfl rfl ?_
      refine fV_iret G dX4_where_32 ?_
      exact fE_i (by unfold qMWhere; first | (rw [if_neg (by omega)]; done) | (rw [if_pos (by omega)]; first | (rw [if_neg (by rw [hon]; decide)]; done) | (rw [if_pos hon]; (split <;> first | rfl | omega | (split <;> first | rfl | omega | (split <;> first | rfl | omega | (split <;> first | rfl | omega | (split <;> first | rfl | omega | (split <;> first | rfl | omega | (split <;> first | rfl | omega))))))))))
    · have d3 : (0 ≤ f ∧ f ≤ 4000) := of_decide_eq_true c3
      refine fV_iload_n (pc' := 21) G 3 dX4_where_20 rfl rfl rfl ?_
      refine fV_i2l (pc' := 22) G dX4_where_21 rfl (by omega) ?_
      refine fV_lconst (v := 0) (pc' := 23) G dX4_where_22 rfl rfl ?_
      refine fV_lconst (v := 1) (pc' := 24) G dX4_where_23 rfl rfl ?_
      refine fV_callSf (st' := [.int (i32 (fB (sBetw what 0 1)))]) (n := 3) (As := [.long (i64 what), .long (i64 0), .long (i64 1)]) (rest := []) (pc' := 27) G (mX4_in l Γ hN I P what 0 1 (by omega) (by omega) (by omega)) kcX4_where_33 rfl rfl (Nat.le_of_ble_eq_true rfl) (Nat.zero_le _) (Nat.zero_le _) dX4_where_24 rfl rfl ?_
      refine fV_ifne_b (tgt := 33) (pc' := 30) G dX4_where_27 (by decide) rfl (fun c4 => ?_) (fun c4 => ?_)
      · have d4 : (0 ≤ what ∧ what ≤ 1) := of_decide_eq_true c4
        have hww := hwm w (by omega) (by omega)
        obtain ⟨hr1, hr2, hr3, hr4, hr5, hr6, hr7, hr8⟩ := id hww
        dsimp only [mR] at hr1 hr2 hr3 hr4 hr5 hr6 hr7 hr8
        have hrb := sRowM_b hm3 hww (f := f) (by omega)
        have hcb := sColM_b hm3 hww (f := f) (by omega)
        refine fV_aload_n (pc' := 34) G 0 dX4_where_33 rfl rfl rfl ?_
        refine fV_iload_n (pc' := 35) G 1 dX4_where_34 rfl rfl rfl ?_
        refine fV_iload_n (pc' := 36) G 2 dX4_where_35 rfl rfl rfl ?_
        refine fV_callVf (st' := [.int (i32 (fB (sOnB (I 215 2) (I 215 1) (fun i => I 215 (3 + i)) (mR I w) f)))]) (n := 2) (k := 214) (K := 4) (As := [.int (i32 w), .int (i32 f)]) (rest := []) (pc' := 39) G (mX4_isOn l Γ hN I P hm w (by omega) (hwm _ (by omega) (by omega)) f (by omega)) kcX4_where_64 (by omega) rfl rfl rfl rfl (Nat.le_of_ble_eq_true rfl) (Nat.zero_le _) (Nat.zero_le _) dX4_where_36 rfl rfl ?_
        refine fV_ifne_b (tgt := 45) (pc' := 42) G dX4_where_39 (by decide) rfl (fun c5 => ?_) (fun c5 => ?_)
        · have hon : mOn I w f = true := c5
          refine fV_aload_n (pc' := 46) G 0 dX4_where_45 rfl rfl rfl ?_
          refine fV_iload_n (pc' := 47) G 1 dX4_where_46 rfl rfl rfl ?_
          refine fV_iload_n (pc' := 48) G 2 dX4_where_47 rfl rfl rfl ?_
          refine fV_callVf (st' := [.int (i32 (sColM (I 215 2) (mR I w) f))]) (n := 2) (k := 214) (K := 4) (As := [.int (i32 w), .int (i32 f)]) (rest := []) (pc' := 51) G (mX4_columnAt l Γ hN I P hm w (by omega) (hwm _ (by omega) (by omega)) f (by omega)) kcX4_where_56 (by omega) rfl rfl rfl rfl (Nat.le_of_ble_eq_true rfl) (Nat.zero_le _) (Nat.zero_le _) dX4_where_48 rfl rfl ?_
          refine fV_istore (lv' := [(4, .int (i32 (sColM (I 215 2) (mR I w) f))), (0, .ref (Γ.1 214)), (1, .int (i32 w)), (2, .int (i32 f)), (3, .int (i32 what))]) (pc' := 53) G dX4_where_51 (by decide) rfl rfl ?_
          refine fV_iload_n (pc' := 54) G 4 dX4_where_53 rfl rfl rfl ?_
          refine fV_if_ne (tgt := 66) (pc' := 57) G dX4_where_54 (by decide) rfl (by omega) (fun c6 => ?_) (fun c6 => ?_)
          · refine fV_iload (pc' := 68) G 0 dX4_where_66 rfl rfl ?_
            refine fV_i2l (pc' := 69) G dX4_where_68 rfl (by omega) ?_
            refine fV_lconst (v := 0) (pc' := 70) G dX4_where_69 rfl rfl ?_
            refine fV_ldc2 (a := 39) (pc' := 73) G klX4_where_234 rfl dX4_where_70 rfl ?_
            refine fV_callSf (st' := [.int (i32 (fB (sBetw (sColM (I 215 2) (mR I w) f) 0 39)))]) (n := 3) (As := [.long (i64 (sColM (I 215 2) (mR I w) f)), .long (i64 0), .long (i64 39)]) (rest := []) (pc' := 76) G (mX4_in l Γ hN I P (sColM (I 215 2) (mR I w) f) 0 39 (by omega) (by omega) (by omega)) kcX4_where_33 rfl rfl (Nat.le_of_ble_eq_true rfl) (Nat.zero_le _) (Nat.zero_le _) dX4_where_73 rfl rfl ?_
            refine fV_ifeq_b (tgt := 84) (pc' := 79) G dX4_where_76 (by decide) rfl (fun c7 => ?_) (fun c7 => ?_)
            · have d7 : ¬ (0 ≤ (sColM (I 215 2) (mR I w) f) ∧ (sColM (I 215 2) (mR I w) f) ≤ 39) := of_decide_eq_false c7
              refine fV_iload (pc' := 86) G 0 dX4_where_84 rfl rfl ?_
              refine fV_sipush (n := 1000) (pc' := 89) G dX4_where_86 rfl rfl ?_
              refine fV_isub (pc' := 90) G dX4_where_89 rfl ?_
              refine fV_iret G dX4_where_90 ?_
              exact fE_i (by unfold qMWhere; first | (rw [if_neg (by omega)]; done) | (rw [if_pos (by omega)]; first | (rw [if_neg (by rw [hon]; decide)]; done) | (rw [if_pos hon]; (split <;> first | rfl | omega | (split <;> first | rfl | omega | (split <;> first | rfl | omega | (split <;> first | rfl | omega | (split <;> first | rfl | omega | (split <;> first | rfl | omega | (split <;> first | rfl | omega))))))))))
            · have d7 : (0 ≤ (sColM (I 215 2) (mR I w) f) ∧ (sColM (I 215 2) (mR I w) f) ≤ 39) := of_decide_eq_true c7
              refine fV_iload (pc' := 81) G 0 dX4_where_79 rfl rfl ?_
              refine fV_goto (tgt := 90) G dX4_where_81 (by decide) ?_
              refine fV_iret G dX4_where_90 ?_
              exact fE_i (by unfold qMWhere; first | (rw [if_neg (by omega)]; done) | (rw [if_pos (by omega)]; first | (rw [if_neg (by rw [hon]; decide)]; done) | (rw [if_pos hon]; (split <;> first | rfl | omega | (split <;> first | rfl | omega | (split <;> first | rfl | omega | (split <;> first | rfl | omega | (split <;> first | rfl | omega | (split <;> first | rfl | omega | (split <;> first | rfl | omega))))))))))
          · refine fV_aload_n (pc' := 58) G 1 dX4_where_57 rfl rfl rfl ?_
            refine fV_iload_n (pc' := 59) G 2 dX4_where_58 rfl rfl rfl ?_
            refine fV_iload_n (pc' := 60) G 3 dX4_where_59 rfl rfl rfl ?_
            refine fV_callVf (st' := [.int (i32 (sRowM (I 215 2) (mR I w) f))]) (n := 2) (k := 214) (K := 4) (As := [.int (i32 w), .int (i32 f)]) (rest := []) (pc' := 63) G (mX4_rowAt l Γ hN I P hm w (by omega) (hwm _ (by omega) (by omega)) f (by omega)) kcX4_where_59 (by omega) rfl rfl rfl rfl (Nat.le_of_ble_eq_true rfl) (Nat.zero_le _) (Nat.zero_le _) dX4_where_60 rfl rfl ?_
            refine fV_goto (tgt := 90) G dX4_where_63 (by decide) ?_
            refine fV_iret G dX4_where_90 ?_
            exact fE_i (by unfold qMWhere; first | (rw [if_neg (by omega)]; done) | (rw [if_pos (by omega)]; first | (rw [if_neg (by rw [hon]; decide)]; done) | (rw [if_pos hon]; (split <;> first | rfl | omega | (split <;> first | rfl | omega | (split <;> first | rfl | omega | (split <;> first | rfl | omega | (split <;> first | rfl | omega | (split <;> first | rfl | omega | (split <;> first | rfl | omega))))))))))
        · have hon : mOn I w f = false := c5
          refine fV_bipush (n := -19) (pc' := 44) G dX4_where_42 rfl rfl ?_
          refine fV_iret G dX4_where_44 ?_
          exact fE_i (by unfold qMWhere; first | (rw [if_neg (by omega)]; done) | (rw [if_pos (by omega)]; first | (rw [if_neg (by rw [hon]; decide)]; done) | (rw [if_pos hon]; (split <;> first | rfl | omega | (split <;> first | rfl | omega | (split <;> first | rfl | omega | (split <;> first | rfl | omega | (split <;> first | rfl | omega | (split <;> first | rfl | omega | (split <;> first | rfl | omega))))))))))
      · have d4 : ¬ (0 ≤ what ∧ what ≤ 1) := of_decide_eq_false c4
        refine fV_bipush (n := -11) (pc' := 32) G dX4_where_30 rfl rfl ?_
        refine fV_iret G dX4_where_32 ?_
        exact fE_i (by unfold qMWhere; first | (rw [if_neg (by omega)]; done) | (rw [if_pos (by omega)]; first | (rw [if_neg (by rw [hon]; decide)]; done) | (rw [if_pos hon]; (split <;> first | rfl | omega | (split <;> first | rfl | omega | (split <;> first | rfl | omega | (split <;> first | rfl | omega | (split <;> first | rfl | omega | (split <;> first | rfl | omega | (split <;> first | rfl | omega))))))))))
set_option maxHeartbeats 4000000 in
set_option maxRecDepth 100000 in
theorem mX4_written (l : Launch) (Γ : fG) {N : Nat} (hN : 220 ≤ N) (I : fM) (P : fN) (ho : mOk I) (row col f : Int) (h_row : -2147483648 ≤ row ∧ row ≤ 2147483647) (h_col : -2147483648 ≤ col ∧ col ≤ 2147483647) (h_f : -2147483648 ≤ f ∧ f ≤ 2147483647) : fMet l yX4_written wsX4_written rmX4_written Γ N [.ref (Γ.1 214), .int (i32 row), .int (i32 col), .int (i32 f)] I P (fE (some (.int (i32 (qMWritten I row col f)))) I P) := by
  refine fMet_of (own := RX4) (cc := cX4_written) (maxL := 5) (ret := (some .int)) rfl (by decide +kernel) rfl (Nat.le_of_ble_eq_true rfl) ?_
  intro p e s m args below meth c G
  obtain ⟨hm, hwm, hth, hsm, hle⟩ := id ho
  obtain ⟨hm1, hm2, hm3, hm4⟩ := id hm
  refine fV_lv (lv' := [(0, .ref (Γ.1 214)), (1, .int (i32 row)), (2, .int (i32 col)), (3, .int (i32 f))]) [0, 1, 2, 3] rfl ?_
  refine fV_aload_n (pc' := 1) G 0 dX4_written_0 rfl rfl rfl ?_
  refine fV_iconst (pc' := 2) G dX4_written_1 rfl ?_
  refine fV_put (K := 4) (jj := 0) (x := 0) (v := .int (i32 0)) (ty := .int) (pc' := 5) G kfX4_written_26 (by omega) rfl rfl rfl kp4_0 rfl rfl (Nat.le_of_ble_eq_true rfl) dX4_written_2 rfl (fun I1 eI1 => ?_)
  refine fV_mem (I' := I) (P' := P) (by rw [eI1]; exact fup_id hth) rfl ?_
  refine fV_iload_n (pc' := 6) G 1 dX4_written_5 rfl rfl rfl ?_
  refine fV_i2l (pc' := 7) G dX4_written_6 rfl (by omega) ?_
  refine fV_lconst (v := 0) (pc' := 8) G dX4_written_7 rfl rfl ?_
  refine fV_ldc2 (a := 7) (pc' := 11) G klX4_written_62 rfl dX4_written_8 rfl ?_
  refine fV_callSf (st' := [.int (i32 (fB (sBetw row 0 7)))]) (n := 3) (As := [.long (i64 row), .long (i64 0), .long (i64 7)]) (rest := []) (pc' := 14) G (mX4_in l Γ hN I P row 0 7 (by omega) (by omega) (by omega)) kcX4_written_33 rfl rfl (Nat.le_of_ble_eq_true rfl) (Nat.zero_le _) (Nat.zero_le _) dX4_written_11 rfl rfl ?_
  refine fV_ifeq_b (tgt := 36) (pc' := 17) G dX4_written_14 (by decide) rfl (fun c2 => ?_) (fun c2 => ?_)
  · have d2 : ¬ (0 ≤ row ∧ row ≤ 7) := of_decide_eq_false c2
    refine fV_bipush (n := -11) (pc' := 38) G dX4_written_36 rfl rfl ?_
    refine fV_iret G dX4_written_38 ?_
    exact fE_i (by unfold qMWritten; (split <;> first | rfl | omega | (split <;> first | rfl | omega | (split <;> first | rfl | omega | (split <;> first | rfl | omega | (split <;> first | rfl | omega | (split <;> first | rfl | omega | (split <;> first | rfl | omega))))))))
  · have d2 : (0 ≤ row ∧ row ≤ 7) := of_decide_eq_true c2
    refine fV_iload_n (pc' := 18) G 2 dX4_written_17 rfl rfl rfl ?_
    refine fV_i2l (pc' := 19) G dX4_written_18 rfl (by omega) ?_
    refine fV_lconst (v := 0) (pc' := 20) G dX4_written_19 rfl rfl ?_
    refine fV_ldc2 (a := 39) (pc' := 23) G klX4_written_234 rfl dX4_written_20 rfl ?_
    refine fV_callSf (st' := [.int (i32 (fB (sBetw col 0 39)))]) (n := 3) (As := [.long (i64 col), .long (i64 0), .long (i64 39)]) (rest := []) (pc' := 26) G (mX4_in l Γ hN I P col 0 39 (by omega) (by omega) (by omega)) kcX4_written_33 rfl rfl (Nat.le_of_ble_eq_true rfl) (Nat.zero_le _) (Nat.zero_le _) dX4_written_23 rfl rfl ?_
    refine fV_ifeq_b (tgt := 36) (pc' := 29) G dX4_written_26 (by decide) rfl (fun c3 => ?_) (fun c3 => ?_)
    · have d3 : ¬ (0 ≤ col ∧ col ≤ 39) := of_decide_eq_false c3
      refine fV_bipush (n := -11) (pc' := 38) G dX4_written_36 rfl rfl ?_
      refine fV_iret G dX4_written_38 ?_
      exact fE_i (by unfold qMWritten; (split <;> first | rfl | omega | (split <;> first | rfl | omega | (split <;> first | rfl | omega | (split <;> first | rfl | omega | (split <;> first | rfl | omega | (split <;> first | rfl | omega | (split <;> first | rfl | omega))))))))
    · have d3 : (0 ≤ col ∧ col ≤ 39) := of_decide_eq_true c3
      refine fV_iload_n (pc' := 30) G 3 dX4_written_29 rfl rfl rfl ?_
      refine fV_callSf (st' := [.int (i32 (fB (sBetw f 0 4000)))]) (n := 1) (As := [.int (i32 f)]) (rest := []) (pc' := 33) G (mX4_isFrame l Γ hN I P f (by omega)) kcX4_written_231 rfl rfl (Nat.le_of_ble_eq_true rfl) (Nat.zero_le _) (Nat.zero_le _) dX4_written_30 rfl rfl ?_
      refine fV_ifne_b (tgt := 39) (pc' := 36) G dX4_written_33 (by decide) rfl (fun c4 => ?_) (fun c4 => ?_)
      · have d4 : (0 ≤ f ∧ f ≤ 4000) := of_decide_eq_true c4
        refine fV_aload_n (pc' := 40) G 0 dX4_written_39 rfl rfl rfl ?_
        refine fV_iload_n (pc' := 41) G 1 dX4_written_40 rfl rfl rfl ?_
        refine fV_iload_n (pc' := 42) G 2 dX4_written_41 rfl rfl rfl ?_
        refine fV_iload_n (pc' := 43) G 3 dX4_written_42 rfl rfl rfl ?_
        refine fV_callVf (st' := [.int (i32 (qMIn I row col f))]) (n := 3) (k := 214) (K := 4) (As := [.int (i32 row), .int (i32 col), .int (i32 f)]) (rest := []) (pc' := 46) G (mX4_wordIn l Γ hN I P ho row col f (by omega) (by omega) (by omega)) kcX4_written_236 (by omega) rfl rfl rfl rfl (Nat.le_of_ble_eq_true rfl) (Nat.zero_le _) (Nat.zero_le _) dX4_written_43 rfl rfl ?_
        have hib := qMIn_b (I := I) (row := row) (col := col) (f := f) hm1
        refine fV_istore (lv' := [(4, .int (i32 (qMIn I row col f))), (0, .ref (Γ.1 214)), (1, .int (i32 row)), (2, .int (i32 col)), (3, .int (i32 f))]) (pc' := 48) G dX4_written_46 (by decide) rfl rfl ?_
        refine fV_iload (pc' := 50) G 0 dX4_written_48 rfl rfl ?_
        refine fV_bipush (n := -19) (pc' := 52) G dX4_written_50 rfl rfl ?_
        refine fV_icmp_ne (tgt := 60) (pc' := 55) G dX4_written_52 (by decide) rfl (by omega) (by decide) (fun c5 => ?_) (fun c5 => ?_)
        · have hih := qMIn_has hm1 (row := row) (col := col) (f := f) (by assumption)
          obtain ⟨⟨hi0, hi1⟩, -, -, hi2, hi3⟩ := id hih
          have hww := hwm (qMIn I row col f) hi0 hi1
          obtain ⟨hr1, hr2, hr3, hr4, hr5, hr6, hr7, hr8⟩ := id hww
          dsimp only [mR] at hr1 hr2 hr3 hr4 hr5 hr6 hr7 hr8
          refine fV_aload_n (pc' := 61) G 1 dX4_written_60 rfl rfl rfl ?_
          refine fV_iload (pc' := 63) G 0 dX4_written_61 rfl rfl ?_
          refine fV_bipush (n := 7) (pc' := 65) G dX4_written_63 rfl rfl ?_
          refine fV_iload_n (pc' := 66) G 3 dX4_written_65 rfl rfl rfl ?_
          refine fV_iadd (pc' := 67) G dX4_written_66 rfl ?_
          refine fV_aload_n (pc' := 68) G 1 dX4_written_67 rfl rfl rfl ?_
          refine fV_iload (pc' := 70) G 0 dX4_written_68 rfl rfl ?_
          refine fV_iload_n (pc' := 71) G 4 dX4_written_70 rfl rfl rfl ?_
          refine fV_callVf (st' := [.int (i32 (sColM (I 215 2) (mR I (qMIn I row col f)) f)), .int (i32 (7 + col)), .int (i32 (qMIn I row col f)), .ref (Γ.1 214)]) (n := 2) (k := 214) (K := 4) (As := [.int (i32 (qMIn I row col f)), .int (i32 f)]) (rest := [.int (i32 (7 + col)), .int (i32 (qMIn I row col f)), .ref (Γ.1 214)]) (pc' := 74) G (mX4_columnAt l Γ hN I P hm (qMIn I row col f) (by omega) (hwm _ (by omega) (by omega)) f (by omega)) kcX4_written_56 (by omega) rfl rfl rfl rfl (Nat.le_of_ble_eq_true rfl) (Nat.zero_le _) (Nat.zero_le _) dX4_written_71 rfl rfl ?_
          refine fV_isub (pc' := 75) G dX4_written_74 rfl ?_
          refine fV_callVf (st' := [.int (i32 (I 215 (13 + 19 * (qMIn I row col f) + ((7 + col) - (sColM (I 215 2) (mR I (qMIn I row col f)) f)))))]) (n := 2) (k := 214) (K := 4) (As := [.int (i32 (qMIn I row col f)), .int (i32 ((7 + col) - (sColM (I 215 2) (mR I (qMIn I row col f)) f)))]) (rest := []) (pc' := 78) G (mX4_of l Γ hN I P (qMIn I row col f) (by omega) ((7 + col) - (sColM (I 215 2) (mR I (qMIn I row col f)) f)) (by omega)) kcX4_written_37 (by omega) rfl rfl rfl rfl (Nat.le_of_ble_eq_true rfl) (Nat.zero_le _) (Nat.zero_le _) dX4_written_75 rfl rfl ?_
          refine fV_iret G dX4_written_78 ?_
          exact fE_i (by unfold qMWritten; (split <;> first | rfl | omega | (split <;> first | rfl | omega | (split <;> first | rfl | omega | (split <;> first | rfl | omega | (split <;> first | rfl | omega | (split <;> first | rfl | omega | (split <;> first | rfl | omega))))))))
        · refine fV_bipush (n := -19) (pc' := 57) G dX4_written_55 rfl rfl ?_
          refine fV_goto (tgt := 78) G dX4_written_57 (by decide) ?_
          refine fV_iret G dX4_written_78 ?_
          exact fE_i (by unfold qMWritten; (split <;> first | rfl | omega | (split <;> first | rfl | omega | (split <;> first | rfl | omega | (split <;> first | rfl | omega | (split <;> first | rfl | omega | (split <;> first | rfl | omega | (split <;> first | rfl | omega))))))))
      · have d4 : ¬ (0 ≤ f ∧ f ≤ 4000) := of_decide_eq_false c4
        refine fV_bipush (n := -11) (pc' := 38) G dX4_written_36 rfl rfl ?_
        refine fV_iret G dX4_written_38 ?_
        exact fE_i (by unfold qMWritten; (split <;> first | rfl | omega | (split <;> first | rfl | omega | (split <;> first | rfl | omega | (split <;> first | rfl | omega | (split <;> first | rfl | omega | (split <;> first | rfl | omega | (split <;> first | rfl | omega))))))))
set_option maxHeartbeats 4000000 in
set_option maxRecDepth 100000 in
theorem mX4_onScreen (l : Launch) (Γ : fG) {N : Nat} (hN : 220 ≤ N) (I : fM) (P : fN) (ho : mOk I) (f : Int) (h_f : -2147483648 ≤ f ∧ f ≤ 2147483647) : fMet l yX4_onScreen wsX4_onScreen rmX4_onScreen Γ N [.ref (Γ.1 214), .int (i32 f)] I P (fE (some (.int (qMOnScreen I f))) I P) := by
  refine fMet_of (own := RX4) (cc := cX4_onScreen) (maxL := 4) (ret := (some .int)) rfl (by decide +kernel) rfl (Nat.le_of_ble_eq_true rfl) ?_
  intro p e s m args below meth c G
  obtain ⟨hm, hwm, hth, hsm, hle⟩ := id ho
  obtain ⟨hm1, hm2, hm3, hm4⟩ := id hm
  refine fV_lv (lv' := [(0, .ref (Γ.1 214)), (1, .int (i32 f))]) [0, 1] rfl ?_
  refine fV_aload_n (pc' := 1) G 0 dX4_onScreen_0 rfl rfl rfl ?_
  refine fV_iconst (pc' := 2) G dX4_onScreen_1 rfl ?_
  refine fV_put (K := 4) (jj := 0) (x := 0) (v := .int (i32 0)) (ty := .int) (pc' := 5) G kfX4_onScreen_26 (by omega) rfl rfl rfl kp4_0 rfl rfl (Nat.le_of_ble_eq_true rfl) dX4_onScreen_2 rfl (fun I1 eI1 => ?_)
  refine fV_mem (I' := I) (P' := P) (by rw [eI1]; exact fup_id hth) rfl ?_
  refine fV_iload_n (pc' := 6) G 1 dX4_onScreen_5 rfl rfl rfl ?_
  refine fV_callSf (st' := [.int (i32 (fB (sBetw f 0 4000)))]) (n := 1) (As := [.int (i32 f)]) (rest := []) (pc' := 9) G (mX4_isFrame l Γ hN I P f (by omega)) kcX4_onScreen_231 rfl rfl (Nat.le_of_ble_eq_true rfl) (Nat.zero_le _) (Nat.zero_le _) dX4_onScreen_6 rfl rfl ?_
  refine fV_ifne_b (tgt := 15) (pc' := 12) G dX4_onScreen_9 (by decide) rfl (fun c2 => ?_) (fun c2 => ?_)
  · have d2 : (0 ≤ f ∧ f ≤ 4000) := of_decide_eq_true c2
    refine fV_iconst (pc' := 16) G dX4_onScreen_15 rfl ?_
    refine fV_istore_n (lv' := [(2, .int (i32 0)), (0, .ref (Γ.1 214)), (1, .int (i32 f))]) (pc' := 17) G dX4_onScreen_16 rfl (by decide) rfl rfl ?_
    refine fV_iconst (pc' := 18) G dX4_onScreen_17 rfl ?_
    refine fV_istore_n (lv' := [(3, .int (i32 0)), (2, .int (i32 0)), (0, .ref (Γ.1 214)), (1, .int (i32 f))]) (pc' := 19) G dX4_onScreen_18 rfl (by decide) rfl rfl ?_
    have lp : ∀ (z : Nat) (i : Int) (q : Int32), 0 ≤ i ∧ i ≤ I 215 0 → q = sSet (fun w => mOn I w f) i → ((I 215 0 - i).toNat) = z → fV p l e rmX4_onScreen s m args below meth c (MQ below (fQ Γ N (fE (some (.int (qMOnScreen I f))) I P)) args s 0 0 (fA Γ N)) (fA Γ N) Γ N 4 0 0 I P 19 [(0, .ref (Γ.1 214)), (1, .int (i32 f)), (2, .int q), (3, .int (i32 i))] [] := by
      intro z
      induction z using Nat.strongRecOn with
      | _ z ih_lp =>
        intro i q hi hq hz_lp
        refine fV_iload_n (pc' := 20) G 3 dX4_onScreen_19 rfl rfl rfl ?_
        refine fV_aload_n (pc' := 21) G 0 dX4_onScreen_20 rfl rfl rfl ?_
        refine fV_get (K := 4) (v := .ref (Γ.1 215)) (pc' := 24) G kfX4_onScreen_7 (by omega) rfl rfl rfl dX4_onScreen_21 rfl ?_
        refine fV_iconst (pc' := 25) G dX4_onScreen_24 rfl ?_
        refine fV_iald (K := 8) (n := 241) (pc' := 26) G (by omega) rfl (fun _ _ => rfl) (by decide) (by omega) dX4_onScreen_25 rfl ?_
        refine fV_icmp_ge (tgt := 54) (pc' := 29) G dX4_onScreen_26 (by decide) rfl (by omega) (by omega) (fun c103 => ?_) (fun c103 => ?_)
        · refine fV_iload_n (pc' := 55) G 2 dX4_onScreen_54 rfl rfl rfl ?_
          refine fV_iret G dX4_onScreen_55 ?_
          exact ⟨by unfold qMOnScreen; rw [if_pos (by omega), hq, show i = I 215 0 by omega], rfl, rfl⟩
        · refine fV_iload_n (pc' := 30) G 2 dX4_onScreen_29 rfl rfl rfl ?_
          refine fV_aload_n (pc' := 31) G 0 dX4_onScreen_30 rfl rfl rfl ?_
          refine fV_iload_n (pc' := 32) G 3 dX4_onScreen_31 rfl rfl rfl ?_
          refine fV_iload_n (pc' := 33) G 1 dX4_onScreen_32 rfl rfl rfl ?_
          refine fV_callVf (st' := [.int (i32 (fB (sOnB (I 215 2) (I 215 1) (fun i => I 215 (3 + i)) (mR I i) f))), .int q]) (n := 2) (k := 214) (K := 4) (As := [.int (i32 i), .int (i32 f)]) (rest := [.int q]) (pc' := 36) G (mX4_isOn l Γ hN I P hm i (by omega) (hwm _ (by omega) (by omega)) f (by omega)) kcX4_onScreen_64 (by omega) rfl rfl rfl rfl (Nat.le_of_ble_eq_true rfl) (Nat.zero_le _) (Nat.zero_le _) dX4_onScreen_33 rfl rfl ?_
          refine fV_ifeq_b (tgt := 45) (pc' := 39) G dX4_onScreen_36 (by decide) rfl (fun c104 => ?_) (fun c104 => ?_)
          · have hon : mOn I i f = false := c104
            refine fV_iconst (pc' := 46) G dX4_onScreen_45 rfl ?_
            refine fV_ior (pc' := 47) G dX4_onScreen_46 rfl ?_
            refine fV_istore_n (lv' := [(2, .int (q ||| (i32 0))), (0, .ref (Γ.1 214)), (1, .int (i32 f)), (3, .int (i32 i))]) (pc' := 48) G dX4_onScreen_47 rfl (by decide) rfl rfl ?_
            refine fV_iinc (lv' := [(3, .int (i32 (i + 1))), (2, .int (q ||| (i32 0))), (0, .ref (Γ.1 214)), (1, .int (i32 f))]) (pc' := 51) G 3 dX4_onScreen_48 rfl (by decide) rfl rfl ?_
            refine fV_goto (tgt := 19) G dX4_onScreen_51 (by decide) ?_
            refine fV_lv (lv' := [(0, .ref (Γ.1 214)), (1, .int (i32 f)), (2, .int (q ||| (i32 0))), (3, .int (i32 (i + 1)))]) [2, 3, 1, 0] rfl ?_
            exact ih_lp _ (by omega) (i + 1) (q ||| (i32 0)) (by omega) (by rw [sSet_s (by omega), ← hq, hon]; first | rfl | exact Int32.or_zero) rfl
          · have hon : mOn I i f = true := c104
            refine fV_iconst (pc' := 40) G dX4_onScreen_39 rfl ?_
            refine fV_iload_n (pc' := 41) G 3 dX4_onScreen_40 rfl rfl rfl ?_
            refine fV_ishl (pc' := 42) G dX4_onScreen_41 rfl ?_
            refine fV_goto (tgt := 46) G dX4_onScreen_42 (by decide) ?_
            refine fV_ior (pc' := 47) G dX4_onScreen_46 rfl ?_
            refine fV_istore_n (lv' := [(2, .int (q ||| (i32 1 <<< (i32 i &&& 31)))), (0, .ref (Γ.1 214)), (1, .int (i32 f)), (3, .int (i32 i))]) (pc' := 48) G dX4_onScreen_47 rfl (by decide) rfl rfl ?_
            refine fV_iinc (lv' := [(3, .int (i32 (i + 1))), (2, .int (q ||| (i32 1 <<< (i32 i &&& 31)))), (0, .ref (Γ.1 214)), (1, .int (i32 f))]) (pc' := 51) G 3 dX4_onScreen_48 rfl (by decide) rfl rfl ?_
            refine fV_goto (tgt := 19) G dX4_onScreen_51 (by decide) ?_
            refine fV_lv (lv' := [(0, .ref (Γ.1 214)), (1, .int (i32 f)), (2, .int (q ||| (i32 1 <<< (i32 i &&& 31)))), (3, .int (i32 (i + 1)))]) [2, 3, 1, 0] rfl ?_
            exact ih_lp _ (by omega) (i + 1) (q ||| (i32 1 <<< (i32 i &&& 31))) (by omega) (by rw [sSet_s (by omega), ← hq, hon]; first | rfl | exact Int32.or_zero) rfl
    refine fV_lv (lv' := [(0, .ref (Γ.1 214)), (1, .int (i32 f)), (2, .int (i32 0)), (3, .int (i32 0))]) [2, 3, 1, 0] rfl ?_
    exact lp _ 0 (i32 0) (by omega) (by rw [sSet_0]) rfl
  · have d2 : ¬ (0 ≤ f ∧ f ≤ 4000) := of_decide_eq_false c2
    refine fV_bipush (n := -11) (pc' := 14) G dX4_onScreen_12 rfl rfl ?_
    refine fV_iret G dX4_onScreen_14 ?_
    exact ⟨by unfold qMOnScreen; rw [if_neg (by omega)], rfl, rfl⟩
set_option maxHeartbeats 4000000 in
set_option maxRecDepth 100000 in
theorem mX4_meeting (l : Launch) (Γ : fG) {N : Nat} (hN : 220 ≤ N) (I : fM) (P : fN) (ho : mOk I) (a b : Int) (h_a : -2147483648 ≤ a ∧ a ≤ 2147483647) (h_b : -2147483648 ≤ b ∧ b ≤ 2147483647) : fMet l yX4_meeting wsX4_meeting rmX4_meeting Γ N [.ref (Γ.1 214), .int (i32 a), .int (i32 b)] I P (fE (some (.int (i32 (qMMeeting I a b)))) I P) := by
  refine fMet_of (own := RX4) (cc := cX4_meeting) (maxL := 3) (ret := (some .int)) rfl (by decide +kernel) rfl (Nat.le_of_ble_eq_true rfl) ?_
  intro p e s m args below meth c G
  obtain ⟨hm, hwm, hth, hsm, hle⟩ := id ho
  obtain ⟨hm1, hm2, hm3, hm4⟩ := id hm
  refine fV_lv (lv' := [(0, .ref (Γ.1 214)), (1, .int (i32 a)), (2, .int (i32 b))]) [0, 1, 2] rfl ?_
  refine fV_aload_n (pc' := 1) G 0 dX4_meeting_0 rfl rfl rfl ?_
  refine fV_iconst (pc' := 2) G dX4_meeting_1 rfl ?_
  refine fV_put (K := 4) (jj := 0) (x := 0) (v := .int (i32 0)) (ty := .int) (pc' := 5) G kfX4_meeting_26 (by omega) rfl rfl rfl kp4_0 rfl rfl (Nat.le_of_ble_eq_true rfl) dX4_meeting_2 rfl (fun I1 eI1 => ?_)
  refine fV_mem (I' := I) (P' := P) (by rw [eI1]; exact fup_id hth) rfl ?_
  refine fV_aload_n (pc' := 6) G 0 dX4_meeting_5 rfl rfl rfl ?_
  refine fV_iload_n (pc' := 7) G 1 dX4_meeting_6 rfl rfl rfl ?_
  refine fV_callVf (st' := [.int (i32 (fB (decide (0 ≤ a ∧ a < I 215 0))))]) (n := 1) (k := 214) (K := 4) (As := [.int (i32 a)]) (rest := []) (pc' := 10) G (mX4_isWord l Γ hN I P hm1 a (by omega)) kcX4_meeting_103 (by omega) rfl rfl rfl rfl (Nat.le_of_ble_eq_true rfl) (Nat.zero_le _) (Nat.zero_le _) dX4_meeting_7 rfl rfl ?_
  refine fV_ifeq_b (tgt := 35) (pc' := 13) G dX4_meeting_10 (by decide) rfl (fun c2 => ?_) (fun c2 => ?_)
  · have d2 : ¬ (0 ≤ a ∧ a < I 215 0) := of_decide_eq_false c2
    refine fV_bipush (n := -11) (pc' := 37) G dX4_meeting_35 rfl rfl ?_
    refine fV_iret G dX4_meeting_37 ?_
    exact fE_i (by unfold qMMeeting; (split <;> first | rfl | omega | (split <;> first | rfl | omega | (split <;> first | rfl | omega | (split <;> first | rfl | omega | (split <;> first | rfl | omega | (split <;> first | rfl | omega | (split <;> first | rfl | omega))))))))
  · have d2 : (0 ≤ a ∧ a < I 215 0) := of_decide_eq_true c2
    refine fV_aload_n (pc' := 14) G 0 dX4_meeting_13 rfl rfl rfl ?_
    refine fV_iload_n (pc' := 15) G 2 dX4_meeting_14 rfl rfl rfl ?_
    refine fV_callVf (st' := [.int (i32 (fB (decide (0 ≤ b ∧ b < I 215 0))))]) (n := 1) (k := 214) (K := 4) (As := [.int (i32 b)]) (rest := []) (pc' := 18) G (mX4_isWord l Γ hN I P hm1 b (by omega)) kcX4_meeting_103 (by omega) rfl rfl rfl rfl (Nat.le_of_ble_eq_true rfl) (Nat.zero_le _) (Nat.zero_le _) dX4_meeting_15 rfl rfl ?_
    refine fV_ifeq_b (tgt := 35) (pc' := 21) G dX4_meeting_18 (by decide) rfl (fun c3 => ?_) (fun c3 => ?_)
    · have d3 : ¬ (0 ≤ b ∧ b < I 215 0) := of_decide_eq_false c3
      refine fV_bipush (n := -11) (pc' := 37) G dX4_meeting_35 rfl rfl ?_
      refine fV_iret G dX4_meeting_37 ?_
      exact fE_i (by unfold qMMeeting; (split <;> first | rfl | omega | (split <;> first | rfl | omega | (split <;> first | rfl | omega | (split <;> first | rfl | omega | (split <;> first | rfl | omega | (split <;> first | rfl | omega | (split <;> first | rfl | omega))))))))
    · have d3 : (0 ≤ b ∧ b < I 215 0) := of_decide_eq_true c3
      refine fV_iload_n (pc' := 22) G 1 dX4_meeting_21 rfl rfl rfl ?_
      refine fV_iload_n (pc' := 23) G 2 dX4_meeting_22 rfl rfl rfl ?_
      refine fV_icmp_eq (tgt := 35) (pc' := 26) G dX4_meeting_23 (by decide) rfl (by omega) (by omega) (fun c4 => ?_) (fun c4 => ?_)
      · refine fV_bipush (n := -11) (pc' := 37) G dX4_meeting_35 rfl rfl ?_
        refine fV_iret G dX4_meeting_37 ?_
        exact fE_i (by unfold qMMeeting; (split <;> first | rfl | omega | (split <;> first | rfl | omega | (split <;> first | rfl | omega | (split <;> first | rfl | omega | (split <;> first | rfl | omega | (split <;> first | rfl | omega | (split <;> first | rfl | omega))))))))
      · refine fV_aload_n (pc' := 27) G 0 dX4_meeting_26 rfl rfl rfl ?_
        refine fV_iload_n (pc' := 28) G 1 dX4_meeting_27 rfl rfl rfl ?_
        refine fV_iload_n (pc' := 29) G 2 dX4_meeting_28 rfl rfl rfl ?_
        refine fV_callVf (st' := [.int (i32 (sMetM (I 215 2) (I 215 1) (fun i => I 215 (3 + i)) (mR I a) (mR I b)))]) (n := 2) (k := 214) (K := 4) (As := [.int (i32 a), .int (i32 b)]) (rest := []) (pc' := 32) G (mX4_meetingOf l Γ hN I P hm a (by omega) (hwm _ (by omega) (by omega)) b (by omega) (hwm _ (by omega) (by omega))) kcX4_meeting_78 (by omega) rfl rfl rfl rfl (Nat.le_of_ble_eq_true rfl) (Nat.zero_le _) (Nat.zero_le _) dX4_meeting_29 rfl rfl ?_
        refine fV_goto (tgt := 37) G dX4_meeting_32 (by decide) ?_
        refine fV_iret G dX4_meeting_37 ?_
        exact fE_i (by unfold qMMeeting; (split <;> first | rfl | omega | (split <;> first | rfl | omega | (split <;> first | rfl | omega | (split <;> first | rfl | omega | (split <;> first | rfl | omega | (split <;> first | rfl | omega | (split <;> first | rfl | omega))))))))
set_option maxHeartbeats 4000000 in
set_option maxRecDepth 100000 in
theorem mX4_pace (l : Launch) (Γ : fG) {N : Nat} (hN : 220 ≤ N) (I : fM) (P : fN) (ho : mOk I) (f : Int) (h_f : -2147483648 ≤ f ∧ f ≤ 2147483647) : fMet l yX4_pace wsX4_pace rmX4_pace Γ N [.ref (Γ.1 214), .int (i32 f)] I P (fE (some (.int (i32 (qMPace I f)))) I P) := by
  refine fMet_of (own := RX4) (cc := cX4_pace) (maxL := 4) (ret := (some .int)) rfl (by decide +kernel) rfl (Nat.le_of_ble_eq_true rfl) ?_
  intro p e s m args below meth c G
  obtain ⟨hm, hwm, hth, hsm, hle⟩ := id ho
  obtain ⟨hm1, hm2, hm3, hm4⟩ := id hm
  have hln : ∀ i : Int, 0 ≤ i → i < I 215 0 → (1 ≤ I 215 (13 + 19 * i + 6) ∧ I 215 (13 + 19 * i + 6) ≤ 12) ∧ 1 ≤ I 215 (13 + 19 * i + 1) ∧ I 215 (13 + 19 * i + 1) ≤ 60 := fun i h1 h2 => ⟨(hwm i h1 h2).1, (hwm i h1 h2).2.2.1⟩
  refine fV_lv (lv' := [(0, .ref (Γ.1 214)), (1, .int (i32 f))]) [0, 1] rfl ?_
  refine fV_aload_n (pc' := 1) G 0 dX4_pace_0 rfl rfl rfl ?_
  refine fV_iconst (pc' := 2) G dX4_pace_1 rfl ?_
  refine fV_put (K := 4) (jj := 0) (x := 0) (v := .int (i32 0)) (ty := .int) (pc' := 5) G kfX4_pace_26 (by omega) rfl rfl rfl kp4_0 rfl rfl (Nat.le_of_ble_eq_true rfl) dX4_pace_2 rfl (fun I1 eI1 => ?_)
  refine fV_mem (I' := I) (P' := P) (by rw [eI1]; exact fup_id hth) rfl ?_
  refine fV_iload_n (pc' := 6) G 1 dX4_pace_5 rfl rfl rfl ?_
  refine fV_callSf (st' := [.int (i32 (fB (sBetw f 0 4000)))]) (n := 1) (As := [.int (i32 f)]) (rest := []) (pc' := 9) G (mX4_isFrame l Γ hN I P f (by omega)) kcX4_pace_231 rfl rfl (Nat.le_of_ble_eq_true rfl) (Nat.zero_le _) (Nat.zero_le _) dX4_pace_6 rfl rfl ?_
  refine fV_ifne_b (tgt := 15) (pc' := 12) G dX4_pace_9 (by decide) rfl (fun c2 => ?_) (fun c2 => ?_)
  · have d2 : (0 ≤ f ∧ f ≤ 4000) := of_decide_eq_true c2
    refine fV_fconst0 (pc' := 16) G dX4_pace_15 rfl ?_
    refine fV_fstore_n (lv' := [(2, .float FP.fconst0), (0, .ref (Γ.1 214)), (1, .int (i32 f))]) (pc' := 17) G dX4_pace_16 rfl (by decide) rfl rfl ?_
    refine fV_iconst (pc' := 18) G dX4_pace_17 rfl ?_
    refine fV_istore_n (lv' := [(3, .int (i32 0)), (2, .float FP.fconst0), (0, .ref (Γ.1 214)), (1, .int (i32 f))]) (pc' := 19) G dX4_pace_18 rfl (by decide) rfl rfl ?_
    have lp : ∀ (z : Nat) (i : Int) (q : UInt32), 0 ≤ i ∧ i ≤ I 215 0 → q = qMPaceF I f i → ((I 215 0 - i).toNat) = z → fV p l e rmX4_pace s m args below meth c (MQ below (fQ Γ N (fE (some (.int (i32 (qMPace I f)))) I P)) args s 0 0 (fA Γ N)) (fA Γ N) Γ N 4 0 0 I P 19 [(0, .ref (Γ.1 214)), (1, .int (i32 f)), (2, .float q), (3, .int (i32 i))] [] := by
      intro z
      induction z using Nat.strongRecOn with
      | _ z ih_lp =>
        intro i q hi hq hz_lp
        refine fV_iload_n (pc' := 20) G 3 dX4_pace_19 rfl rfl rfl ?_
        refine fV_aload_n (pc' := 21) G 0 dX4_pace_20 rfl rfl rfl ?_
        refine fV_get (K := 4) (v := .ref (Γ.1 215)) (pc' := 24) G kfX4_pace_7 (by omega) rfl rfl rfl dX4_pace_21 rfl ?_
        refine fV_iconst (pc' := 25) G dX4_pace_24 rfl ?_
        refine fV_iald (K := 8) (n := 241) (pc' := 26) G (by omega) rfl (fun _ _ => rfl) (by decide) (by omega) dX4_pace_25 rfl ?_
        refine fV_icmp_ge (tgt := 85) (pc' := 29) G dX4_pace_26 (by decide) rfl (by omega) (by omega) (fun c103 => ?_) (fun c103 => ?_)
        · refine fV_fload_n (pc' := 86) G 2 dX4_pace_85 rfl rfl rfl ?_
          refine fV_ldcf (v := 1103626240) (pc' := 88) G klX4_pace_240 dX4_pace_86 rfl ?_
          refine fV_fmul (pc' := 89) G dX4_pace_88 (sPaceF_m (by rw [hq]; exact sPaceF_ni (n := I 215 0) hln (by omega) (by omega))) rfl ?_
          refine fV_f2i (pc' := 90) (a := (FP.f2i (FP.fmul q 1103626240)).toInt) G dX4_pace_89 (i32_self _).symm rfl ?_
          refine fV_iret G dX4_pace_90 ?_
          exact fE_i (by unfold qMPace; rw [if_pos (by omega), hq, show i = I 215 0 by omega])
        · have hww := hwm i (by omega) (by omega)
          obtain ⟨hr1, hr2, hr3, hr4, hr5, hr6, hr7, hr8⟩ := id hww
          dsimp only [mR] at hr1 hr2 hr3 hr4 hr5 hr6 hr7 hr8
          refine fV_iload_n (pc' := 30) G 1 dX4_pace_29 rfl rfl rfl ?_
          refine fV_i2l (pc' := 31) G dX4_pace_30 rfl (by omega) ?_
          refine fV_aload_n (pc' := 32) G 0 dX4_pace_31 rfl rfl rfl ?_
          refine fV_iload_n (pc' := 33) G 3 dX4_pace_32 rfl rfl rfl ?_
          refine fV_iconst (pc' := 34) G dX4_pace_33 rfl ?_
          refine fV_callVf (st' := [.int (i32 (I 215 (13 + 19 * i + 0))), .long (i64 f)]) (n := 2) (k := 214) (K := 4) (As := [.int (i32 i), .int (i32 0)]) (rest := [.long (i64 f)]) (pc' := 37) G (mX4_of l Γ hN I P i (by omega) 0 (by omega)) kcX4_pace_37 (by omega) rfl rfl rfl rfl (Nat.le_of_ble_eq_true rfl) (Nat.zero_le _) (Nat.zero_le _) dX4_pace_34 rfl rfl ?_
          refine fV_i2l (pc' := 38) G dX4_pace_37 rfl (by omega) ?_
          refine fV_aload_n (pc' := 39) G 0 dX4_pace_38 rfl rfl rfl ?_
          refine fV_iload_n (pc' := 40) G 3 dX4_pace_39 rfl rfl rfl ?_
          refine fV_iconst (pc' := 41) G dX4_pace_40 rfl ?_
          refine fV_callVf (st' := [.int (i32 (I 215 (13 + 19 * i + 0))), .long (i64 (I 215 (13 + 19 * i + 0))), .long (i64 f)]) (n := 2) (k := 214) (K := 4) (As := [.int (i32 i), .int (i32 0)]) (rest := [.long (i64 (I 215 (13 + 19 * i + 0))), .long (i64 f)]) (pc' := 44) G (mX4_of l Γ hN I P i (by omega) 0 (by omega)) kcX4_pace_37 (by omega) rfl rfl rfl rfl (Nat.le_of_ble_eq_true rfl) (Nat.zero_le _) (Nat.zero_le _) dX4_pace_41 rfl rfl ?_
          refine fV_aload_n (pc' := 45) G 0 dX4_pace_44 rfl rfl rfl ?_
          refine fV_iload_n (pc' := 46) G 3 dX4_pace_45 rfl rfl rfl ?_
          refine fV_iconst (pc' := 47) G dX4_pace_46 rfl ?_
          refine fV_callVf (st' := [.int (i32 (I 215 (13 + 19 * i + 1))), .int (i32 (I 215 (13 + 19 * i + 0))), .long (i64 (I 215 (13 + 19 * i + 0))), .long (i64 f)]) (n := 2) (k := 214) (K := 4) (As := [.int (i32 i), .int (i32 1)]) (rest := [.int (i32 (I 215 (13 + 19 * i + 0))), .long (i64 (I 215 (13 + 19 * i + 0))), .long (i64 f)]) (pc' := 50) G (mX4_of l Γ hN I P i (by omega) 1 (by omega)) kcX4_pace_37 (by omega) rfl rfl rfl rfl (Nat.le_of_ble_eq_true rfl) (Nat.zero_le _) (Nat.zero_le _) dX4_pace_47 rfl rfl ?_
          refine fV_iadd (pc' := 51) G dX4_pace_50 rfl ?_
          refine fV_iconst (pc' := 52) G dX4_pace_51 rfl ?_
          refine fV_isub (pc' := 53) G dX4_pace_52 rfl ?_
          refine fV_i2l (pc' := 54) G dX4_pace_53 rfl (by omega) ?_
          refine fV_callSf (st' := [.int (i32 (fB (sBetw f (I 215 (13 + 19 * i + 0)) (((I 215 (13 + 19 * i + 0)) + (I 215 (13 + 19 * i + 1))) - 1))))]) (n := 3) (As := [.long (i64 f), .long (i64 (I 215 (13 + 19 * i + 0))), .long (i64 (((I 215 (13 + 19 * i + 0)) + (I 215 (13 + 19 * i + 1))) - 1))]) (rest := []) (pc' := 57) G (mX4_in l Γ hN I P f (I 215 (13 + 19 * i + 0)) (((I 215 (13 + 19 * i + 0)) + (I 215 (13 + 19 * i + 1))) - 1) (by omega) (by omega) (by omega)) kcX4_pace_33 rfl rfl (Nat.le_of_ble_eq_true rfl) (Nat.zero_le _) (Nat.zero_le _) dX4_pace_54 rfl rfl ?_
          refine fV_ifeq_b (tgt := 79) (pc' := 60) G dX4_pace_57 (by decide) rfl (fun c104 => ?_) (fun c104 => ?_)
          · have d104 : ¬ ((I 215 (13 + 19 * i + 0)) ≤ f ∧ f ≤ (((I 215 (13 + 19 * i + 0)) + (I 215 (13 + 19 * i + 1))) - 1)) := of_decide_eq_false c104
            refine fV_iinc (lv' := [(3, .int (i32 (i + 1))), (0, .ref (Γ.1 214)), (1, .int (i32 f)), (2, .float q)]) (pc' := 82) G 3 dX4_pace_79 rfl (by decide) rfl rfl ?_
            refine fV_goto (tgt := 19) G dX4_pace_82 (by decide) ?_
            refine fV_lv (lv' := [(0, .ref (Γ.1 214)), (1, .int (i32 f)), (2, .float q), (3, .int (i32 (i + 1)))]) [1, 2, 3, 0] rfl ?_
            exact ih_lp _ (by omega) (i + 1) q (by omega) (by rw [show qMPaceF I f (i + 1) = _ from sPaceF_s (by omega), hq]; first | (rw [if_pos (by (try dsimp only); omega)]; rfl) | (rw [if_neg (by (try dsimp only); omega)]; rfl)) rfl
          · have d104 : ((I 215 (13 + 19 * i + 0)) ≤ f ∧ f ≤ (((I 215 (13 + 19 * i + 0)) + (I 215 (13 + 19 * i + 1))) - 1)) := of_decide_eq_true c104
            refine fV_fload_n (pc' := 61) G 2 dX4_pace_60 rfl rfl rfl ?_
            refine fV_aload_n (pc' := 62) G 0 dX4_pace_61 rfl rfl rfl ?_
            refine fV_iload_n (pc' := 63) G 3 dX4_pace_62 rfl rfl rfl ?_
            refine fV_bipush (n := 6) (pc' := 65) G dX4_pace_63 rfl rfl ?_
            refine fV_callVf (st' := [.int (i32 (I 215 (13 + 19 * i + 6))), .float q]) (n := 2) (k := 214) (K := 4) (As := [.int (i32 i), .int (i32 6)]) (rest := [.float q]) (pc' := 68) G (mX4_of l Γ hN I P i (by omega) 6 (by omega)) kcX4_pace_37 (by omega) rfl rfl rfl rfl (Nat.le_of_ble_eq_true rfl) (Nat.zero_le _) (Nat.zero_le _) dX4_pace_65 rfl rfl ?_
            refine fV_i2f (pc' := 69) G dX4_pace_68 rfl ?_
            refine fV_aload_n (pc' := 70) G 0 dX4_pace_69 rfl rfl rfl ?_
            refine fV_iload_n (pc' := 71) G 3 dX4_pace_70 rfl rfl rfl ?_
            refine fV_iconst (pc' := 72) G dX4_pace_71 rfl ?_
            refine fV_callVf (st' := [.int (i32 (I 215 (13 + 19 * i + 1))), .float (FP.i2f (i32 (I 215 (13 + 19 * i + 6)))), .float q]) (n := 2) (k := 214) (K := 4) (As := [.int (i32 i), .int (i32 1)]) (rest := [.float (FP.i2f (i32 (I 215 (13 + 19 * i + 6)))), .float q]) (pc' := 75) G (mX4_of l Γ hN I P i (by omega) 1 (by omega)) kcX4_pace_37 (by omega) rfl rfl rfl rfl (Nat.le_of_ble_eq_true rfl) (Nat.zero_le _) (Nat.zero_le _) dX4_pace_72 rfl rfl ?_
            refine fV_i2f (pc' := 76) G dX4_pace_75 rfl ?_
            refine fV_fdiv (pc' := 77) G dX4_pace_76 (flq_n (hln i (by omega) (by omega)).1 (hln i (by omega) (by omega)).2) rfl ?_
            refine fV_fadd (pc' := 78) G dX4_pace_77 (vf_of_nan (by rw [hq]; exact FP.Core.fadd_out (sPaceF_ni (n := I 215 0) hln (by omega) (by omega)) (flq_fin (hln i (by omega) (by omega)).1 (hln i (by omega) (by omega)).2))) rfl ?_
            refine fV_fstore_n (lv' := [(2, .float (FP.fadd q (FP.fdiv (FP.i2f (i32 (I 215 (13 + 19 * i + 6)))) (FP.i2f (i32 (I 215 (13 + 19 * i + 1))))))), (0, .ref (Γ.1 214)), (1, .int (i32 f)), (3, .int (i32 i))]) (pc' := 79) G dX4_pace_78 rfl (by decide) rfl rfl ?_
            refine fV_iinc (lv' := [(3, .int (i32 (i + 1))), (2, .float (FP.fadd q (FP.fdiv (FP.i2f (i32 (I 215 (13 + 19 * i + 6)))) (FP.i2f (i32 (I 215 (13 + 19 * i + 1))))))), (0, .ref (Γ.1 214)), (1, .int (i32 f))]) (pc' := 82) G 3 dX4_pace_79 rfl (by decide) rfl rfl ?_
            refine fV_goto (tgt := 19) G dX4_pace_82 (by decide) ?_
            refine fV_lv (lv' := [(0, .ref (Γ.1 214)), (1, .int (i32 f)), (2, .float (FP.fadd q (FP.fdiv (FP.i2f (i32 (I 215 (13 + 19 * i + 6)))) (FP.i2f (i32 (I 215 (13 + 19 * i + 1))))))), (3, .int (i32 (i + 1)))]) [2, 3, 1, 0] rfl ?_
            exact ih_lp _ (by omega) (i + 1) (FP.fadd q (FP.fdiv (FP.i2f (i32 (I 215 (13 + 19 * i + 6)))) (FP.i2f (i32 (I 215 (13 + 19 * i + 1)))))) (by omega) (by rw [show qMPaceF I f (i + 1) = _ from sPaceF_s (by omega), hq]; first | (rw [if_pos (by (try dsimp only); omega)]; rfl) | (rw [if_neg (by (try dsimp only); omega)]; rfl)) rfl
    refine fV_lv (lv' := [(0, .ref (Γ.1 214)), (1, .int (i32 f)), (2, .float FP.fconst0), (3, .int (i32 0))]) [2, 3, 1, 0] rfl ?_
    exact lp _ 0 FP.fconst0 (by omega) rfl rfl
  · have d2 : ¬ (0 ≤ f ∧ f ≤ 4000) := of_decide_eq_false c2
    refine fV_bipush (n := -11) (pc' := 14) G dX4_pace_12 rfl rfl ?_
    refine fV_iret G dX4_pace_14 ?_
    exact fE_i (by unfold qMPace; rw [if_neg (by omega)])
set_option maxHeartbeats 4000000 in
set_option maxRecDepth 100000 in
theorem mX4_filled (l : Launch) (Γ : fG) {N : Nat} (hN : 220 ≤ N) (I : fM) (P : fN) (ho : mOk I) (f : Int) (h_f : -2147483648 ≤ f ∧ f ≤ 2147483647) : fMet l yX4_filled wsX4_filled rmX4_filled Γ N [.ref (Γ.1 214), .int (i32 f)] I P (fE (some (.int (i32 (qMFilled I f)))) I P) := by
  refine fMet_of (own := RX4) (cc := cX4_filled) (maxL := 5) (ret := (some .int)) rfl (by decide +kernel) rfl (Nat.le_of_ble_eq_true rfl) ?_
  intro p e s m args below meth c G
  obtain ⟨hm, hwm, hth, hsm, hle⟩ := id ho
  obtain ⟨hm1, hm2, hm3, hm4⟩ := id hm
  refine fV_lv (lv' := [(0, .ref (Γ.1 214)), (1, .int (i32 f))]) [0, 1] rfl ?_
  refine fV_aload_n (pc' := 1) G 0 dX4_filled_0 rfl rfl rfl ?_
  refine fV_iconst (pc' := 2) G dX4_filled_1 rfl ?_
  refine fV_put (K := 4) (jj := 0) (x := 0) (v := .int (i32 0)) (ty := .int) (pc' := 5) G kfX4_filled_26 (by omega) rfl rfl rfl kp4_0 rfl rfl (Nat.le_of_ble_eq_true rfl) dX4_filled_2 rfl (fun I1 eI1 => ?_)
  refine fV_mem (I' := I) (P' := P) (by rw [eI1]; exact fup_id hth) rfl ?_
  refine fV_iload_n (pc' := 6) G 1 dX4_filled_5 rfl rfl rfl ?_
  refine fV_callSf (st' := [.int (i32 (fB (sBetw f 0 4000)))]) (n := 1) (As := [.int (i32 f)]) (rest := []) (pc' := 9) G (mX4_isFrame l Γ hN I P f (by omega)) kcX4_filled_231 rfl rfl (Nat.le_of_ble_eq_true rfl) (Nat.zero_le _) (Nat.zero_le _) dX4_filled_6 rfl rfl ?_
  refine fV_ifne_b (tgt := 15) (pc' := 12) G dX4_filled_9 (by decide) rfl (fun c2 => ?_) (fun c2 => ?_)
  · have d2 : (0 ≤ f ∧ f ≤ 4000) := of_decide_eq_true c2
    refine fV_iconst (pc' := 16) G dX4_filled_15 rfl ?_
    refine fV_istore_n (lv' := [(2, .int (i32 0)), (0, .ref (Γ.1 214)), (1, .int (i32 f))]) (pc' := 17) G dX4_filled_16 rfl (by decide) rfl rfl ?_
    refine fV_iconst (pc' := 18) G dX4_filled_17 rfl ?_
    refine fV_istore_n (lv' := [(3, .int (i32 0)), (2, .int (i32 0)), (0, .ref (Γ.1 214)), (1, .int (i32 f))]) (pc' := 19) G dX4_filled_18 rfl (by decide) rfl rfl ?_
    have lpr : ∀ (z : Nat) (row : Int) (q : Int), 0 ≤ row ∧ row ≤ 8 → q = sSum (fun row => sSum (fun col => if qMIn I row col f ≠ -19 then 1 else 0) 40) row → ((8 - row).toNat) = z → fV p l e rmX4_filled s m args below meth c (MQ below (fQ Γ N (fE (some (.int (i32 (qMFilled I f)))) I P)) args s 0 0 (fA Γ N)) (fA Γ N) Γ N 5 0 0 I P 19 [(0, .ref (Γ.1 214)), (1, .int (i32 f)), (2, .int (i32 q)), (3, .int (i32 row))] [] := by
      intro z
      induction z using Nat.strongRecOn with
      | _ z ih_lpr =>
        intro row q hrow hq hz_lpr
        refine fV_iload_n (pc' := 20) G 3 dX4_filled_19 rfl rfl rfl ?_
        refine fV_bipush (n := 8) (pc' := 22) G dX4_filled_20 rfl rfl ?_
        refine fV_icmp_ge (tgt := 68) (pc' := 25) G dX4_filled_22 (by decide) rfl (by omega) (by decide) (fun c103 => ?_) (fun c103 => ?_)
        · refine fV_iload_n (pc' := 69) G 2 dX4_filled_68 rfl rfl rfl ?_
          refine fV_iret G dX4_filled_69 ?_
          exact fE_i (by unfold qMFilled; rw [if_pos (by omega), hq, show row = 8 by omega])
        · refine fV_iconst (pc' := 26) G dX4_filled_25 rfl ?_
          refine fV_istore (lv' := [(4, .int (i32 0)), (0, .ref (Γ.1 214)), (1, .int (i32 f)), (2, .int (i32 q)), (3, .int (i32 row))]) (pc' := 28) G dX4_filled_26 (by decide) rfl rfl ?_
          have lpc : ∀ (z : Nat) (col : Int) (t : Int), 0 ≤ col ∧ col ≤ 40 → t = q + sSum (fun col => if qMIn I row col f ≠ -19 then 1 else 0) col → ((40 - col).toNat) = z → fV p l e rmX4_filled s m args below meth c (MQ below (fQ Γ N (fE (some (.int (i32 (qMFilled I f)))) I P)) args s 0 0 (fA Γ N)) (fA Γ N) Γ N 5 0 0 I P 28 [(0, .ref (Γ.1 214)), (1, .int (i32 f)), (2, .int (i32 t)), (3, .int (i32 row)), (4, .int (i32 col))] [] := by
            intro z
            induction z using Nat.strongRecOn with
            | _ z ih_lpc =>
              intro col t hcol ht hz_lpc
              refine fV_iload (pc' := 30) G 4 dX4_filled_28 rfl rfl ?_
              refine fV_bipush (n := 40) (pc' := 32) G dX4_filled_30 rfl rfl ?_
              refine fV_icmp_ge (tgt := 62) (pc' := 35) G dX4_filled_32 (by decide) rfl (by omega) (by decide) (fun c204 => ?_) (fun c204 => ?_)
              · refine fV_iinc (lv' := [(3, .int (i32 (row + 1))), (0, .ref (Γ.1 214)), (1, .int (i32 f)), (2, .int (i32 t)), (4, .int (i32 col))]) (pc' := 65) G 3 dX4_filled_62 rfl (by decide) rfl rfl ?_
                refine fV_goto (tgt := 19) G dX4_filled_65 (by decide) ?_
                refine fV_lv (lv' := [(0, .ref (Γ.1 214)), (1, .int (i32 f)), (2, .int (i32 t)), (3, .int (i32 (row + 1)))]) [1, 2, 3, 0] rfl ?_
                exact ih_lpr _ (by omega) (row + 1) t (by omega) (by rw [sSum_s (by omega), ← hq, ht, show col = 40 by omega]) rfl
              · refine fV_iload_n (pc' := 36) G 2 dX4_filled_35 rfl rfl rfl ?_
                refine fV_aload_n (pc' := 37) G 0 dX4_filled_36 rfl rfl rfl ?_
                refine fV_iload_n (pc' := 38) G 3 dX4_filled_37 rfl rfl rfl ?_
                refine fV_iload (pc' := 40) G 4 dX4_filled_38 rfl rfl ?_
                refine fV_iload_n (pc' := 41) G 1 dX4_filled_40 rfl rfl rfl ?_
                refine fV_callVf (st' := [.int (i32 (qMIn I row col f)), .int (i32 t)]) (n := 3) (k := 214) (K := 4) (As := [.int (i32 row), .int (i32 col), .int (i32 f)]) (rest := [.int (i32 t)]) (pc' := 44) G (mX4_wordIn l Γ hN I P ho row col f (by omega) (by omega) (by omega)) kcX4_filled_236 (by omega) rfl rfl rfl rfl (Nat.le_of_ble_eq_true rfl) (Nat.zero_le _) (Nat.zero_le _) dX4_filled_41 rfl rfl ?_
                have hib := qMIn_b (I := I) (row := row) (col := col) (f := f) hm1
                refine fV_bipush (n := -19) (pc' := 46) G dX4_filled_44 rfl rfl ?_
                refine fV_icmp_eq (tgt := 53) (pc' := 49) G dX4_filled_46 (by decide) rfl (by omega) (by decide) (fun c205 => ?_) (fun c205 => ?_)
                · have hmt := c205
                  refine fV_iconst (pc' := 54) G dX4_filled_53 rfl ?_
                  refine fV_iadd (pc' := 55) G dX4_filled_54 rfl ?_
                  refine fV_istore_n (lv' := [(2, .int (i32 (t + 0))), (0, .ref (Γ.1 214)), (1, .int (i32 f)), (3, .int (i32 row)), (4, .int (i32 col))]) (pc' := 56) G dX4_filled_55 rfl (by decide) rfl rfl ?_
                  refine fV_iinc (lv' := [(4, .int (i32 (col + 1))), (2, .int (i32 (t + 0))), (0, .ref (Γ.1 214)), (1, .int (i32 f)), (3, .int (i32 row))]) (pc' := 59) G 4 dX4_filled_56 rfl (by decide) rfl rfl ?_
                  refine fV_goto (tgt := 28) G dX4_filled_59 (by decide) ?_
                  refine fV_lv (lv' := [(0, .ref (Γ.1 214)), (1, .int (i32 f)), (2, .int (i32 (t + 0))), (3, .int (i32 row)), (4, .int (i32 (col + 1)))]) [2, 3, 1, 4, 0] rfl ?_
                  exact ih_lpc _ (by omega) (col + 1) (t + 0) (by omega) (by rw [sSum_s (by omega)]; (try dsimp only); first | (rw [if_pos hmt]; omega) | (rw [if_neg (fun z => z hmt)]; omega)) rfl
                · have hmt := c205
                  refine fV_iconst (pc' := 50) G dX4_filled_49 rfl ?_
                  refine fV_goto (tgt := 54) G dX4_filled_50 (by decide) ?_
                  refine fV_iadd (pc' := 55) G dX4_filled_54 rfl ?_
                  refine fV_istore_n (lv' := [(2, .int (i32 (t + 1))), (0, .ref (Γ.1 214)), (1, .int (i32 f)), (3, .int (i32 row)), (4, .int (i32 col))]) (pc' := 56) G dX4_filled_55 rfl (by decide) rfl rfl ?_
                  refine fV_iinc (lv' := [(4, .int (i32 (col + 1))), (2, .int (i32 (t + 1))), (0, .ref (Γ.1 214)), (1, .int (i32 f)), (3, .int (i32 row))]) (pc' := 59) G 4 dX4_filled_56 rfl (by decide) rfl rfl ?_
                  refine fV_goto (tgt := 28) G dX4_filled_59 (by decide) ?_
                  refine fV_lv (lv' := [(0, .ref (Γ.1 214)), (1, .int (i32 f)), (2, .int (i32 (t + 1))), (3, .int (i32 row)), (4, .int (i32 (col + 1)))]) [2, 3, 1, 4, 0] rfl ?_
                  exact ih_lpc _ (by omega) (col + 1) (t + 1) (by omega) (by rw [sSum_s (by omega)]; (try dsimp only); first | (rw [if_pos hmt]; omega) | (rw [if_neg (fun z => z hmt)]; omega)) rfl
          refine fV_lv (lv' := [(0, .ref (Γ.1 214)), (1, .int (i32 f)), (2, .int (i32 q)), (3, .int (i32 row)), (4, .int (i32 0))]) [1, 2, 3, 4, 0] rfl ?_
          exact lpc _ 0 q (by omega) (by rw [sSum_0]; omega) rfl
    refine fV_lv (lv' := [(0, .ref (Γ.1 214)), (1, .int (i32 f)), (2, .int (i32 0)), (3, .int (i32 0))]) [2, 3, 1, 0] rfl ?_
    exact lpr _ 0 0 (by omega) (by rw [sSum_0]) rfl
  · have d2 : ¬ (0 ≤ f ∧ f ≤ 4000) := of_decide_eq_false c2
    refine fV_bipush (n := -11) (pc' := 14) G dX4_filled_12 rfl rfl ?_
    refine fV_iret G dX4_filled_14 ?_
    exact fE_i (by unfold qMFilled; rw [if_neg (by omega)])
