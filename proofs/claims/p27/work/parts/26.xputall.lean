/-! CONTRACTS 12: the putting of all words (rows laid by wip/whole/gen/con12.py) -/
set_option maxHeartbeats 4000000 in
set_option maxRecDepth 100000 in
theorem mX0_hasShotIn (l : Launch) (Γ : fG) {N : Nat} (hN : 214 ≤ N) (I : fM) (P : fN) {sc : Nat} (hs : fSc sc) (hv : fSv I sc) (f : Int) (h_f : -2147483648 ≤ f ∧ f ≤ 2147483647) : fMet l yX0_hasShotIn wsX0_hasShotIn rmX0_hasShotIn Γ N [.ref (Γ.1 sc), .int (i32 f)] I P (fE (some (.int (i32 (fB (decide (xShotOf I sc f < I sc 3)))))) I P) := by
  refine fMet_of (own := RX0) (cc := cX0_hasShotIn) (maxL := 3) (ret := (some .boolean)) rfl (by decide +kernel) rfl (Nat.le_of_ble_eq_true rfl) ?_
  intro p e s m args below meth c G
  obtain ⟨hs0, hs1, hs2, hs3, hs4, hs5, hs6⟩ := fSc_k hs
  have hn0 : sc < N := by omega
  have hn1 : sc + 1 < N := by omega
  have hn2 : sc + 2 < N := by omega
  obtain ⟨hv1, hv3, hv4, hvs⟩ := id hv
  refine fV_lv (lv' := [(0, .ref (Γ.1 sc)), (1, .int (i32 f))]) [0, 1] rfl ?_
  refine fV_iconst (pc' := 1) G dX0_hasShotIn_0 rfl ?_
  refine fV_istore_n (lv' := [(2, .int (i32 0)), (0, .ref (Γ.1 sc)), (1, .int (i32 f))]) (pc' := 2) G dX0_hasShotIn_1 rfl (by decide) rfl rfl ?_
  have lp : ∀ (z : Nat) (i : Int), 0 ≤ i ∧ i ≤ I sc 3 → i ≤ sF (fun i => I (sc + 2) i = f) 0 (I sc 3) → ((I sc 3 - i).toNat) = z → fV p l e rmX0_hasShotIn s m args below meth c (MQ below (fQ Γ N (fE (some (.int (i32 (fB (decide (xShotOf I sc f < I sc 3)))))) I P)) args s 0 0 (fA Γ N)) (fA Γ N) Γ N 3 0 0 I P 2 [(0, .ref (Γ.1 sc)), (1, .int (i32 f)), (2, .int (i32 i))] [] := by
    intro z
    induction z using Nat.strongRecOn with
    | _ z ih_lp =>
      intro i hi hR hz_lp
      refine fV_iload_n (pc' := 3) G 2 dX0_hasShotIn_2 rfl rfl rfl ?_
      refine fV_aload_n (pc' := 4) G 0 dX0_hasShotIn_3 rfl rfl rfl ?_
      refine fV_get (K := 0) (v := .int (i32 (I sc 3))) (pc' := 7) G kfX0_hasShotIn_46 hn0 hs1 rfl rfl dX0_hasShotIn_4 rfl ?_
      refine fV_icmp_ge (tgt := 28) (pc' := 10) G dX0_hasShotIn_7 (by decide) rfl (by first | omega | (have := hvs i (by omega) (by omega); omega)) (by first | omega | (have := hvs i (by omega) (by omega); omega)) (fun c101 => ?_) (fun c101 => ?_)
      · refine fV_iconst (pc' := 29) G dX0_hasShotIn_28 rfl ?_
        refine fV_zret (b := false) G dX0_hasShotIn_29 ?_
        exact fE_b (by unfold xShotOf; first | (have e := isF_end (sF_is (c := (fun i => I (sc + 2) i = f)) (a := 0) (b := I sc 3) (by omega)) hR (by omega); rw [e]; symm; exact decide_eq_false (by omega)) | (have e := isF_hit (sF_is (c := (fun i => I (sc + 2) i = f)) (a := 0) (b := I sc 3) (by omega)) (by omega) hR (by (try dsimp only); omega); rw [e]; symm; exact decide_eq_true (by omega)))
      · refine fV_aload_n (pc' := 11) G 0 dX0_hasShotIn_10 rfl rfl rfl ?_
        refine fV_get (K := 0) (v := .ref (Γ.1 (sc + 2))) (pc' := 14) G kfX0_hasShotIn_17 hn0 hs1 rfl rfl dX0_hasShotIn_11 rfl ?_
        refine fV_iload_n (pc' := 15) G 2 dX0_hasShotIn_14 rfl rfl rfl ?_
        refine fV_iald (K := 6) (n := 10) (pc' := 16) G hn2 hs3 (fun _ _ => rfl) (by decide) (by first | omega | (have := hvs i (by omega) (by omega); omega)) dX0_hasShotIn_15 rfl ?_
        refine fV_iload_n (pc' := 17) G 1 dX0_hasShotIn_16 rfl rfl rfl ?_
        refine fV_icmp_ne (tgt := 22) (pc' := 20) G dX0_hasShotIn_17 (by decide) rfl (by first | omega | (have := hvs i (by omega) (by omega); omega)) (by first | omega | (have := hvs i (by omega) (by omega); omega)) (fun c102 => ?_) (fun c102 => ?_)
        · refine fV_iinc (lv' := [(2, .int (i32 (i + 1))), (0, .ref (Γ.1 sc)), (1, .int (i32 f))]) (pc' := 25) G 2 dX0_hasShotIn_22 rfl (by decide) rfl rfl ?_
          refine fV_goto (tgt := 2) G dX0_hasShotIn_25 (by decide) ?_
          refine fV_lv (lv' := [(0, .ref (Γ.1 sc)), (1, .int (i32 f)), (2, .int (i32 (i + 1)))]) [1, 2, 0] rfl ?_
          exact ih_lp _ (by omega) (i + 1) (by omega) (isF_step (sF_is (by omega)) hR (by omega) (by (try dsimp only); omega)) rfl
        · refine fV_iconst (pc' := 21) G dX0_hasShotIn_20 rfl ?_
          refine fV_zret (b := true) G dX0_hasShotIn_21 ?_
          exact fE_b (by unfold xShotOf; first | (have e := isF_end (sF_is (c := (fun i => I (sc + 2) i = f)) (a := 0) (b := I sc 3) (by omega)) hR (by omega); rw [e]; symm; exact decide_eq_false (by omega)) | (have e := isF_hit (sF_is (c := (fun i => I (sc + 2) i = f)) (a := 0) (b := I sc 3) (by omega)) (by omega) hR (by (try dsimp only); omega); rw [e]; symm; exact decide_eq_true (by omega)))
  refine fV_lv (lv' := [(0, .ref (Γ.1 sc)), (1, .int (i32 f)), (2, .int (i32 0))]) [1, 2, 0] rfl ?_
  exact lp _ 0 (by omega) ((sF_is (by omega)).1.1) rfl
set_option maxHeartbeats 4000000 in
set_option maxRecDepth 100000 in
theorem mX0_sortForPutting (l : Launch) (Γ : fG) {N : Nat} (hN : 214 ≤ N) (I : fM) (P : fN) {sc : Nat} (hs : fSc sc) (hp : fPs P sc) (hc : 0 ≤ I sc 1 ∧ I sc 1 ≤ 12) (hww : ∀ w : Int, 0 ≤ w → w < I sc 1 → fWv I (P (sc + 1) w)) : fMet l yX0_sortForPutting wsX0_sortForPutting rmX0_sortForPutting Γ N [.ref (Γ.1 sc)] I P (fun v K Q => v = none ∧ Q = P ∧ (∀ a : Nat, a ≠ sc + 5 → K a = I a) ∧ sOrd (fun w => I (P (sc + 1) w) 1) (fun w => I (P (sc + 1) w) 2) (I sc 1) (K (sc + 5))) := by
  refine fMet_of (own := RX0) (cc := cX0_sortForPutting) (maxL := 3) (ret := none) rfl (by decide +kernel) rfl (Nat.le_of_ble_eq_true rfl) ?_
  intro p e s m args below meth c G
  obtain ⟨hs0, hs1, hs2, hs3, hs4, hs5, hs6⟩ := fSc_k hs
  have hn0 : sc < N := by omega
  have hn1 : sc + 1 < N := by omega
  have hn2 : sc + 2 < N := by omega
  refine fV_lv (lv' := [(0, .ref (Γ.1 sc))]) [0] rfl ?_
  refine fV_iconst (pc' := 1) G dX0_sortForPutting_0 rfl ?_
  refine fV_istore_n (lv' := [(1, .int (i32 0)), (0, .ref (Γ.1 sc))]) (pc' := 2) G dX0_sortForPutting_1 rfl (by decide) rfl rfl ?_
  have lp : ∀ (z : Nat) (i : Int) (J : fM), 0 ≤ i ∧ i ≤ I sc 1 → (∀ a : Nat, a ≠ sc + 5 → J a = I a) → sOrd (fun w => I (P (sc + 1) w) 1) (fun w => I (P (sc + 1) w) 2) i (J (sc + 5)) → ((I sc 1 - i).toNat) = z → fV p l e rmX0_sortForPutting s m args below meth c (MQ below (fQ Γ N (fun v K Q => v = none ∧ Q = P ∧ (∀ a : Nat, a ≠ sc + 5 → K a = I a) ∧ sOrd (fun w => I (P (sc + 1) w) 1) (fun w => I (P (sc + 1) w) 2) (I sc 1) (K (sc + 5)))) args s 0 0 (fA Γ N)) (fA Γ N) Γ N 3 0 0 J P 2 [(0, .ref (Γ.1 sc)), (1, .int (i32 i))] [] := by
    intro z
    induction z using Nat.strongRecOn with
    | _ z ih_lp =>
      intro i J hi hJo hO hz_lp
      refine fV_iload_n (pc' := 3) G 1 dX0_sortForPutting_2 rfl rfl rfl ?_
      refine fV_aload_n (pc' := 4) G 0 dX0_sortForPutting_3 rfl rfl rfl ?_
      refine fV_get (K := 0) (v := .int (i32 (J sc 1))) (pc' := 7) G kfX0_sortForPutting_33 hn0 hs1 rfl rfl dX0_sortForPutting_4 rfl ?_
      refine fV_top (b := I sc 1) (by rw [hJo sc (by omega)]) ?_
      refine fV_icmp_ge (tgt := 74) (pc' := 10) G dX0_sortForPutting_7 (by decide) rfl (by omega) (by omega) (fun c101 => ?_) (fun c101 => ?_)
      · refine fV_vret G dX0_sortForPutting_74 ?_
        exact ⟨rfl, rfl, hJo, by rw [show I sc 1 = i by omega]; exact hO⟩
      · refine fV_iload_n (pc' := 11) G 1 dX0_sortForPutting_10 rfl rfl rfl ?_
        refine fV_istore_n (lv' := [(2, .int (i32 i)), (0, .ref (Γ.1 sc)), (1, .int (i32 i))]) (pc' := 12) G dX0_sortForPutting_11 rfl (by decide) rfl rfl ?_
        have lpb : ∀ (z : Nat) (k : Int) (K : fM), 0 ≤ k ∧ k ≤ i → K = fMov J (sc + 5) 0 i k → (∀ j : Int, k ≤ j → j < i → sAhead (fun w => I (P (sc + 1) w) 1) (fun w => I (P (sc + 1) w) 2) i (J (sc + 5) j)) → (k.toNat) = z → fV p l e rmX0_sortForPutting s m args below meth c (MQ below (fQ Γ N (fun v K Q => v = none ∧ Q = P ∧ (∀ a : Nat, a ≠ sc + 5 → K a = I a) ∧ sOrd (fun w => I (P (sc + 1) w) 1) (fun w => I (P (sc + 1) w) 2) (I sc 1) (K (sc + 5)))) args s 0 0 (fA Γ N)) (fA Γ N) Γ N 3 0 0 K P 12 [(0, .ref (Γ.1 sc)), (1, .int (i32 i)), (2, .int (i32 k))] [] := by
          intro z
          induction z using Nat.strongRecOn with
          | _ z ih_lpb =>
            intro k K hk hK hA hz_lpb
            have hKo : ∀ a : Nat, a ≠ sc + 5 → K a = I a := fun a ha => by rw [hK]; funext b; unfold fMov; rw [if_neg (fun z => ha z.1), hJo a ha]
            have hKw : ∀ w : Int, 0 ≤ w → w < 12 → K (P (sc + 1) w) = I (P (sc + 1) w) := fun w h0 h1 => by obtain ⟨j9, h9, e9⟩ := hp.1 w h0 h1; exact hKo _ (by omega)
            refine fV_iload_n (pc' := 13) G 2 dX0_sortForPutting_12 rfl rfl rfl ?_
            refine fV_if_le (tgt := 61) (pc' := 16) G dX0_sortForPutting_13 (by decide) rfl (by omega) (fun c202 => ?_) (fun c202 => ?_)
            · have hex : k ≤ 0 ∨ sAhead (fun w => I (P (sc + 1) w) 1) (fun w => I (P (sc + 1) w) 2) (J (sc + 5) (k - 1)) i := Or.inl c202
              refine fV_aload_n (pc' := 62) G 0 dX0_sortForPutting_61 rfl rfl rfl ?_
              refine fV_get (K := 0) (v := .ref (Γ.1 (sc + 5))) (pc' := 65) G kfX0_sortForPutting_30 hn0 hs1 rfl rfl dX0_sortForPutting_62 rfl ?_
              refine fV_iload_n (pc' := 66) G 2 dX0_sortForPutting_65 rfl rfl rfl ?_
              refine fV_iload_n (pc' := 67) G 1 dX0_sortForPutting_66 rfl rfl rfl ?_
              refine fV_iast (K := 5) (n := 12) (pc' := 68) G (by omega) hs6 (fun _ _ => rfl) (by decide) (by omega) dX0_sortForPutting_67 rfl (fun I203 eI203 => ?_)
              refine fV_iinc (lv' := [(1, .int (i32 (i + 1))), (0, .ref (Γ.1 sc)), (2, .int (i32 k))]) (pc' := 71) G 1 dX0_sortForPutting_68 rfl (by decide) rfl rfl ?_
              refine fV_goto (tgt := 2) G dX0_sortForPutting_71 (by decide) ?_
              refine fV_lv (lv' := [(0, .ref (Γ.1 sc)), (1, .int (i32 (i + 1)))]) [1, 0] rfl ?_
              exact ih_lp _ (by omega) (i + 1) I203 (by omega) (fun a ha => by rw [eI203, fup_ne ha]; exact hKo a ha) (by rw [eI203, hK]; exact sort_ins hO (by omega) hA (sort_low hex hO (by omega))) rfl
            · refine fV_aload_n (pc' := 17) G 0 dX0_sortForPutting_16 rfl rfl rfl ?_
              refine fV_get (K := 0) (v := .ref (Γ.1 (sc + 1))) (pc' := 20) G kfX0_sortForPutting_11 hn0 hs1 rfl rfl dX0_sortForPutting_17 rfl ?_
              refine fV_iload_n (pc' := 21) G 1 dX0_sortForPutting_20 rfl rfl rfl ?_
              refine fV_aald (K := 11) (n := 12) (t := 1) (pc' := 22) G hn1 hs2 (fun _ _ => rfl) rfl (by decide) (by omega) dX0_sortForPutting_21 rfl ?_
              refine fV_aload_n (pc' := 23) G 0 dX0_sortForPutting_22 rfl rfl rfl ?_
              refine fV_get (K := 0) (v := .ref (Γ.1 (sc + 1))) (pc' := 26) G kfX0_sortForPutting_11 hn0 hs1 rfl rfl dX0_sortForPutting_23 rfl ?_
              refine fV_aload_n (pc' := 27) G 0 dX0_sortForPutting_26 rfl rfl rfl ?_
              refine fV_get (K := 0) (v := .ref (Γ.1 (sc + 5))) (pc' := 30) G kfX0_sortForPutting_30 hn0 hs1 rfl rfl dX0_sortForPutting_27 rfl ?_
              refine fV_iload_n (pc' := 31) G 2 dX0_sortForPutting_30 rfl rfl rfl ?_
              refine fV_iconst (pc' := 32) G dX0_sortForPutting_31 rfl ?_
              refine fV_isub (pc' := 33) G dX0_sortForPutting_32 rfl ?_
              refine fV_iald (K := 5) (n := 12) (pc' := 34) G (by omega) hs6 (fun _ _ => rfl) (by decide) (by omega) dX0_sortForPutting_33 rfl ?_
              obtain ⟨y, hy⟩ : ∃ y : Int, y = J (sc + 5) (k - 1) := ⟨_, rfl⟩
              have hyb : 0 ≤ y ∧ y < i := by rw [hy]; exact hO.1 (k - 1) (by omega) (by omega)
              refine fV_top (b := y) (by rw [hK]; unfold fMov; rw [if_neg (by omega), hy]) ?_
              refine fV_aald (K := 11) (n := 12) (t := 1) (pc' := 35) G hn1 hs2 (fun _ _ => rfl) rfl (by decide) (by omega) dX0_sortForPutting_34 rfl ?_
              have hwi : fWv K (P (sc + 1) i) := by unfold fWv; rw [hKw i (by omega) (by omega)]; exact hww i (by omega) (by omega)
              have hwy : fWv K (P (sc + 1) y) := by unfold fWv; rw [hKw y (by omega) (by omega)]; exact hww y (by omega) (by omega)
              refine fV_callSf (st' := [.int (i32 (fB (decide (sBefore (K (P (sc + 1) i)) (K (P (sc + 1) y))))))]) (n := 2) (As := [.ref (Γ.1 (P (sc + 1) i)), .ref (Γ.1 (P (sc + 1) y))]) (rest := []) (pc' := 38) G (mX0_comesBefore l Γ hN K P (fPs_w hs hp (by omega) (by omega)) (fPs_w hs hp (by omega) (by omega)) hwi hwy) kcX0_sortForPutting_136 rfl rfl (Nat.le_of_ble_eq_true rfl) (Nat.zero_le _) (Nat.zero_le _) dX0_sortForPutting_35 rfl rfl ?_
              refine fV_ifeq_b (tgt := 61) (pc' := 41) G dX0_sortForPutting_38 (by decide) rfl (fun c203 => ?_) (fun c203 => ?_)
              · have hnb := of_decide_eq_false c203
                rw [hKw i (by omega) (by omega), hKw y (by omega) (by omega)] at hnb
                have hex : k ≤ 0 ∨ sAhead (fun w => I (P (sc + 1) w) 1) (fun w => I (P (sc + 1) w) 2) (J (sc + 5) (k - 1)) i := Or.inr (by rw [← hy]; refine sAhead_tot (by omega) (fun z => hnb ?_); unfold sAhead at z; (try dsimp only at z); omega)
                refine fV_aload_n (pc' := 62) G 0 dX0_sortForPutting_61 rfl rfl rfl ?_
                refine fV_get (K := 0) (v := .ref (Γ.1 (sc + 5))) (pc' := 65) G kfX0_sortForPutting_30 hn0 hs1 rfl rfl dX0_sortForPutting_62 rfl ?_
                refine fV_iload_n (pc' := 66) G 2 dX0_sortForPutting_65 rfl rfl rfl ?_
                refine fV_iload_n (pc' := 67) G 1 dX0_sortForPutting_66 rfl rfl rfl ?_
                refine fV_iast (K := 5) (n := 12) (pc' := 68) G (by omega) hs6 (fun _ _ => rfl) (by decide) (by omega) dX0_sortForPutting_67 rfl (fun I204 eI204 => ?_)
                refine fV_iinc (lv' := [(1, .int (i32 (i + 1))), (0, .ref (Γ.1 sc)), (2, .int (i32 k))]) (pc' := 71) G 1 dX0_sortForPutting_68 rfl (by decide) rfl rfl ?_
                refine fV_goto (tgt := 2) G dX0_sortForPutting_71 (by decide) ?_
                refine fV_lv (lv' := [(0, .ref (Γ.1 sc)), (1, .int (i32 (i + 1)))]) [1, 0] rfl ?_
                exact ih_lp _ (by omega) (i + 1) I204 (by omega) (fun a ha => by rw [eI204, fup_ne ha]; exact hKo a ha) (by rw [eI204, hK]; exact sort_ins hO (by omega) hA (sort_low hex hO (by omega))) rfl
              · have hbe := of_decide_eq_true c203
                rw [hKw i (by omega) (by omega), hKw y (by omega) (by omega)] at hbe
                have hay : sAhead (fun w => I (P (sc + 1) w) 1) (fun w => I (P (sc + 1) w) 2) i y := by unfold sAhead; (try dsimp only); omega
                refine fV_aload_n (pc' := 42) G 0 dX0_sortForPutting_41 rfl rfl rfl ?_
                refine fV_get (K := 0) (v := .ref (Γ.1 (sc + 5))) (pc' := 45) G kfX0_sortForPutting_30 hn0 hs1 rfl rfl dX0_sortForPutting_42 rfl ?_
                refine fV_iload_n (pc' := 46) G 2 dX0_sortForPutting_45 rfl rfl rfl ?_
                refine fV_aload_n (pc' := 47) G 0 dX0_sortForPutting_46 rfl rfl rfl ?_
                refine fV_get (K := 0) (v := .ref (Γ.1 (sc + 5))) (pc' := 50) G kfX0_sortForPutting_30 hn0 hs1 rfl rfl dX0_sortForPutting_47 rfl ?_
                refine fV_iload_n (pc' := 51) G 2 dX0_sortForPutting_50 rfl rfl rfl ?_
                refine fV_iconst (pc' := 52) G dX0_sortForPutting_51 rfl ?_
                refine fV_isub (pc' := 53) G dX0_sortForPutting_52 rfl ?_
                refine fV_iald (K := 5) (n := 12) (pc' := 54) G (by omega) hs6 (fun _ _ => rfl) (by decide) (by omega) dX0_sortForPutting_53 rfl ?_
                refine fV_iast (K := 5) (n := 12) (pc' := 55) G (by omega) hs6 (fun _ _ => rfl) (by decide) (by omega) dX0_sortForPutting_54 rfl (fun I204 eI204 => ?_)
                refine fV_iinc (lv' := [(2, .int (i32 (k + (-1)))), (0, .ref (Γ.1 sc)), (1, .int (i32 i))]) (pc' := 58) G 2 dX0_sortForPutting_55 rfl (by decide) rfl rfl ?_
                refine fV_goto (tgt := 12) G dX0_sortForPutting_58 (by decide) ?_
                refine fV_lv (lv' := [(0, .ref (Γ.1 sc)), (1, .int (i32 i)), (2, .int (i32 (k + (-1))))]) [1, 2, 0] rfl ?_
                exact ih_lpb _ (by omega) (k + (-1)) I204 (by omega) (by rw [eI204, hK]; have e := fMov_d (I := J) (k := sc + 5) (o := 0) (n := i) (p := k) (by omega); simp only [Int.zero_add] at e; exact e) (fun j h0 h1 => by by_cases z : j = k - 1; (rw [z, ← hy]; exact hay); exact hA j (by omega) h1) rfl
        refine fV_lv (lv' := [(0, .ref (Γ.1 sc)), (1, .int (i32 i)), (2, .int (i32 i))]) [1, 2, 0] rfl ?_
        exact lpb _ i J (by omega) ((fMov_0 _ _ _ _).symm) (fun j h0 h1 => by omega) rfl
  refine fV_lv (lv' := [(0, .ref (Γ.1 sc)), (1, .int (i32 0))]) [1, 0] rfl ?_
  exact lp _ 0 I (by omega) (fun _ _ => rfl) (sOrd_0 _ _ _) rfl
set_option maxHeartbeats 4000000 in
set_option maxRecDepth 100000 in
theorem mX0_putAtFirstPlace (l : Launch) (Γ : fG) {N : Nat} (hN : 214 ≤ N) (I : fM) (P : fN) {sc : Nat} (hs : fSc sc) (hv : fSv I sc) (hp : fPs P sc) (hww : ∀ w : Int, 0 ≤ w → w < I sc 1 → fWv I (P (sc + 1) w)) (x : Int) (hx : 0 ≤ x ∧ x < I sc 1) : fMet l yX0_putAtFirstPlace wsX0_putAtFirstPlace rmX0_putAtFirstPlace Γ N [.ref (Γ.1 sc), .int (i32 x)] I P (fun v J Q => v = none ∧ Q = P ∧ tEq (xPlace I P sc x) J sc) := by
  refine fMet_of (own := RX0) (cc := cX0_putAtFirstPlace) (maxL := 8) (ret := none) rfl (by decide +kernel) rfl (Nat.le_of_ble_eq_true rfl) ?_
  intro p e s m args below meth c G
  obtain ⟨hs0, hs1, hs2, hs3, hs4, hs5, hs6⟩ := fSc_k hs
  have hn0 : sc < N := by omega
  have hn1 : sc + 1 < N := by omega
  have hn2 : sc + 2 < N := by omega
  obtain ⟨hv1, hv3, hv4, hvs⟩ := id hv
  obtain ⟨k, hke⟩ : ∃ k, k = P (sc + 1) x := ⟨_, rfl⟩
  have hkw := fPs_w hs hp (w := x) (by omega) (by omega)
  have hwk := hww x (by omega) (by omega)
  obtain ⟨j, hj, hje⟩ := hp.1 x (by omega) (by omega)
  rw [← hke] at hkw hwk hje
  obtain ⟨hk0, hk1, hk2⟩ := id hkw
  obtain ⟨last, hla⟩ : ∃ last : Int, last = 40 - I k 1 := ⟨_, rfl⟩
  have hla2 := hla
  have hlab : 28 ≤ last ∧ last ≤ 39 := by have := hwk.1; omega
  obtain ⟨fr, hfr⟩ : ∃ fr : Int → Int → Prop, fr = fun la co => xFree I P sc x (I k 2) la co := ⟨_, rfl⟩
  have hfr2 := hfr
  refine fV_lv (lv' := [(0, .ref (Γ.1 sc)), (1, .int (i32 x))]) [0, 1] rfl ?_
  refine fV_aload_n (pc' := 1) G 0 dX0_putAtFirstPlace_0 rfl rfl rfl ?_
  refine fV_get (K := 0) (v := .ref (Γ.1 (sc + 1))) (pc' := 4) G kfX0_putAtFirstPlace_11 hn0 hs1 rfl rfl dX0_putAtFirstPlace_1 rfl ?_
  refine fV_iload_n (pc' := 5) G 1 dX0_putAtFirstPlace_4 rfl rfl rfl ?_
  refine fV_aald (K := 11) (n := 12) (t := 1) (pc' := 6) G hn1 hs2 (fun _ _ => rfl) rfl (by decide) (by omega) dX0_putAtFirstPlace_5 rfl ?_
  refine fV_st (st' := [.ref (Γ.1 k)]) (by rw [hke]) ?_
  refine fV_astore_n (lv' := [(2, .ref (Γ.1 k)), (0, .ref (Γ.1 sc)), (1, .int (i32 x))]) (pc' := 7) G dX0_putAtFirstPlace_6 rfl (by decide) rfl rfl ?_
  refine fV_aload_n (pc' := 8) G 0 dX0_putAtFirstPlace_7 rfl rfl rfl ?_
  refine fV_callVf (st' := [.int (i32 (40 - I k 1))]) (n := 0) (k := k) (K := 2) (As := []) (rest := []) (pc' := 11) G (mX2_lastColumn l Γ hN I P hkw) kcX0_putAtFirstPlace_140 (by omega) hk1 rfl rfl rfl (Nat.le_of_ble_eq_true rfl) (Nat.zero_le _) (Nat.zero_le _) dX0_putAtFirstPlace_8 rfl rfl ?_
  refine fV_top (b := last) hla.symm ?_
  refine fV_istore_n (lv' := [(3, .int (i32 last)), (2, .ref (Γ.1 k)), (0, .ref (Γ.1 sc)), (1, .int (i32 x))]) (pc' := 12) G dX0_putAtFirstPlace_11 rfl (by decide) rfl rfl ?_
  refine fV_iload_n (pc' := 13) G 0 dX0_putAtFirstPlace_12 rfl rfl rfl ?_
  refine fV_iconst (pc' := 14) G dX0_putAtFirstPlace_13 rfl ?_
  refine fV_idiv (pc' := 15) G dX0_putAtFirstPlace_14 rfl (by omega) (by omega) ?_
  refine fV_istore (lv' := [(4, .int (i32 (last / 2))), (3, .int (i32 last)), (2, .ref (Γ.1 k)), (0, .ref (Γ.1 sc)), (1, .int (i32 x))]) (pc' := 17) G dX0_putAtFirstPlace_15 (by decide) rfl rfl ?_
  refine fV_iconst (pc' := 18) G dX0_putAtFirstPlace_17 rfl ?_
  refine fV_istore (lv' := [(5, .int (i32 0)), (4, .int (i32 (last / 2))), (3, .int (i32 last)), (2, .ref (Γ.1 k)), (0, .ref (Γ.1 sc)), (1, .int (i32 x))]) (pc' := 20) G dX0_putAtFirstPlace_18 (by decide) rfl rfl ?_
  have lp : ∀ (z : Nat) (i : Int) (J : fM), 0 ≤ i ∧ i ≤ 8 → tEq I J sc → i ≤ sLF fr last → ((8 - i).toNat) = z → fV p l e rmX0_putAtFirstPlace s m args below meth c (MQ below (fQ Γ N (fun v J Q => v = none ∧ Q = P ∧ tEq (xPlace I P sc x) J sc)) args s 0 0 (fA Γ N)) (fA Γ N) Γ N 8 0 0 J P 20 [(0, .ref (Γ.1 sc)), (1, .int (i32 x)), (2, .ref (Γ.1 k)), (3, .int (i32 last)), (4, .int (i32 (last / 2))), (5, .int (i32 i))] [] := by
    intro z
    induction z using Nat.strongRecOn with
    | _ z ih_lp =>
      intro i J hi hJ hr hz_lp
      refine fV_iload (pc' := 22) G 5 dX0_putAtFirstPlace_20 rfl rfl ?_
      refine fV_getL (pc' := 25) G dX0_putAtFirstPlace_22 rfl ?_
      refine fV_lenL (pc' := 26) G dX0_putAtFirstPlace_25 rfl ?_
      refine fV_icmp_ge (tgt := 118) (pc' := 29) G dX0_putAtFirstPlace_26 (by decide) rfl (by omega) (by decide) (fun c101 => ?_) (fun c101 => ?_)
      · refine fV_vret G dX0_putAtFirstPlace_118 ?_
        exact ⟨rfl, rfl, place_no (by rw [← hke, ← hla2, ← hfr2]; omega) hJ⟩
      · refine fV_iconst (pc' := 30) G dX0_putAtFirstPlace_29 rfl ?_
        refine fV_istore (lv' := [(6, .int (i32 0)), (0, .ref (Γ.1 sc)), (1, .int (i32 x)), (2, .ref (Γ.1 k)), (3, .int (i32 last)), (4, .int (i32 (last / 2))), (5, .int (i32 i))]) (pc' := 32) G dX0_putAtFirstPlace_30 (by decide) rfl rfl ?_
        have lpb : ∀ (z : Nat) (t : Int) (K : fM), 0 ≤ t ∧ t ≤ last + 2 → tEq I K sc → t ≤ sTF fr last (sLane i) → ((last + 2 - t).toNat) = z → fV p l e rmX0_putAtFirstPlace s m args below meth c (MQ below (fQ Γ N (fun v J Q => v = none ∧ Q = P ∧ tEq (xPlace I P sc x) J sc)) args s 0 0 (fA Γ N)) (fA Γ N) Γ N 8 0 0 K P 32 [(0, .ref (Γ.1 sc)), (1, .int (i32 x)), (2, .ref (Γ.1 k)), (3, .int (i32 last)), (4, .int (i32 (last / 2))), (5, .int (i32 i)), (6, .int (i32 t))] [] := by
          intro z
          induction z using Nat.strongRecOn with
          | _ z ih_lpb =>
            intro t K ht hK hq hz_lpb
            have hKc : K sc = I sc := hK _ (by omega) (by omega)
            have hKs : K (sc + 2) = I (sc + 2) := hK _ (by omega) (by omega)
            have hKv : fSv K sc := by unfold fSv; rw [hKc, hKs]; exact hv
            have hKr : ∀ w : Int, 0 ≤ w → w < 12 → K (P (sc + 1) w) = I (P (sc + 1) w) := fun w h0 h1 => by obtain ⟨j9, h9, e9⟩ := hp.1 w h0 h1; exact hK _ (by omega) (by omega)
            have hKk : K k = I k := by rw [hke]; exact hKr x (by omega) (by omega)
            have hKw : ∀ w : Int, 0 ≤ w → w < K sc 1 → fWv K (P (sc + 1) w) := fun w h0 h1 => by rw [hKc] at h1; unfold fWv; rw [hKr w h0 (by omega)]; exact hww w h0 h1
            refine fV_iload (pc' := 34) G 6 dX0_putAtFirstPlace_32 rfl rfl ?_
            refine fV_iload_n (pc' := 35) G 3 dX0_putAtFirstPlace_34 rfl rfl rfl ?_
            refine fV_iconst (pc' := 36) G dX0_putAtFirstPlace_35 rfl ?_
            refine fV_iadd (pc' := 37) G dX0_putAtFirstPlace_36 rfl ?_
            refine fV_icmp_gt (tgt := 112) (pc' := 40) G dX0_putAtFirstPlace_37 (by decide) rfl (by omega) (by omega) (fun c202 => ?_) (fun c202 => ?_)
            · refine fV_iinc (lv' := [(5, .int (i32 (i + 1))), (0, .ref (Γ.1 sc)), (1, .int (i32 x)), (2, .ref (Γ.1 k)), (3, .int (i32 last)), (4, .int (i32 (last / 2))), (6, .int (i32 t))]) (pc' := 115) G 5 dX0_putAtFirstPlace_112 rfl (by decide) rfl rfl ?_
              refine fV_goto (tgt := 20) G dX0_putAtFirstPlace_115 (by decide) ?_
              refine fV_lv (lv' := [(0, .ref (Γ.1 sc)), (1, .int (i32 x)), (2, .ref (Γ.1 k)), (3, .int (i32 last)), (4, .int (i32 (last / 2))), (5, .int (i32 (i + 1)))]) [1, 2, 3, 4, 5, 0] rfl ?_
              exact ih_lp _ (by omega) (i + 1) K (by omega) hK (isF_step (sLF_is fr last) hr (by omega) (by have e := sTF_end (fr := fr) (last := last) (la := sLane i) (by omega) (by omega) hq; (try dsimp only); omega)) rfl
            · refine fV_iload (pc' := 42) G 6 dX0_putAtFirstPlace_40 rfl rfl ?_
              refine fV_iconst (pc' := 43) G dX0_putAtFirstPlace_42 rfl ?_
              refine fV_irem (pc' := 44) G dX0_putAtFirstPlace_43 rfl (by omega) (by omega) ?_
              refine fV_if_ne (tgt := 57) (pc' := 47) G dX0_putAtFirstPlace_44 (by decide) rfl (by omega) (fun c203 => ?_) (fun c203 => ?_)
              · refine fV_iload (pc' := 59) G 4 dX0_putAtFirstPlace_57 rfl rfl ?_
                refine fV_iload (pc' := 61) G 6 dX0_putAtFirstPlace_59 rfl rfl ?_
                refine fV_iconst (pc' := 62) G dX0_putAtFirstPlace_61 rfl ?_
                refine fV_iadd (pc' := 63) G dX0_putAtFirstPlace_62 rfl ?_
                refine fV_iconst (pc' := 64) G dX0_putAtFirstPlace_63 rfl ?_
                refine fV_idiv (pc' := 65) G dX0_putAtFirstPlace_64 rfl (by omega) (by omega) ?_
                refine fV_isub (pc' := 66) G dX0_putAtFirstPlace_65 rfl ?_
                have htb : -100 ≤ sTurn last t ∧ sTurn last t ≤ 100 := by unfold sTurn; split <;> omega
                refine fV_top (b := sTurn last t) (by unfold sTurn; first | rw [if_pos (by omega)] | rw [if_neg (by omega)]) ?_
                refine fV_istore (lv' := [(7, .int (i32 (sTurn last t))), (0, .ref (Γ.1 sc)), (1, .int (i32 x)), (2, .ref (Γ.1 k)), (3, .int (i32 last)), (4, .int (i32 (last / 2))), (5, .int (i32 i)), (6, .int (i32 t))]) (pc' := 68) G dX0_putAtFirstPlace_66 (by decide) rfl rfl ?_
                refine fV_iload (pc' := 70) G 0 dX0_putAtFirstPlace_68 rfl rfl ?_
                refine fV_if_lt (tgt := 106) (pc' := 73) G dX0_putAtFirstPlace_70 (by decide) rfl (by omega) (fun c204 => ?_) (fun c204 => ?_)
                · have hno : ¬ ((0 ≤ sTurn last t ∧ sTurn last t ≤ last) ∧ fr (sLane i) (sTurn last t)) := fun z => absurd z.1.1 (by omega)
                  refine fV_iinc (lv' := [(6, .int (i32 (t + 1))), (7, .int (i32 (sTurn last t))), (0, .ref (Γ.1 sc)), (1, .int (i32 x)), (2, .ref (Γ.1 k)), (3, .int (i32 last)), (4, .int (i32 (last / 2))), (5, .int (i32 i))]) (pc' := 109) G 7 dX0_putAtFirstPlace_106 rfl (by decide) rfl rfl ?_
                  refine fV_goto (tgt := 32) G dX0_putAtFirstPlace_109 (by decide) ?_
                  refine fV_lv (lv' := [(0, .ref (Γ.1 sc)), (1, .int (i32 x)), (2, .ref (Γ.1 k)), (3, .int (i32 last)), (4, .int (i32 (last / 2))), (5, .int (i32 i)), (6, .int (i32 (t + 1)))]) [2, 3, 4, 5, 6, 7, 0] rfl ?_
                  exact ih_lpb _ (by omega) (t + 1) K (by omega) hK (isF_step (sTF_is fr last (sLane i)) hq (by omega) hno) rfl
                · have hst : 0 ≤ sTurn last t := by omega
                  refine fV_aload_n (pc' := 74) G 1 dX0_putAtFirstPlace_73 rfl rfl rfl ?_
                  refine fV_iload_n (pc' := 75) G 2 dX0_putAtFirstPlace_74 rfl rfl rfl ?_
                  refine fV_aload_n (pc' := 76) G 3 dX0_putAtFirstPlace_75 rfl rfl rfl ?_
                  refine fV_get (K := 2) (v := .int (i32 (K k 2))) (pc' := 79) G kfX0_putAtFirstPlace_55 (by omega) hk1 rfl rfl dX0_putAtFirstPlace_76 rfl ?_
                  refine fV_top (b := I k 2) (by rw [hKk]) ?_
                  refine fV_getL (pc' := 82) G dX0_putAtFirstPlace_79 rfl ?_
                  refine fV_iload (pc' := 84) G 6 dX0_putAtFirstPlace_82 rfl rfl ?_
                  refine fV_ildL (pc' := 85) G (by omega) dX0_putAtFirstPlace_84 rfl ?_
                  refine fV_iload (pc' := 87) G 0 dX0_putAtFirstPlace_85 rfl rfl ?_
                  obtain ⟨I205, eI205⟩ : ∃ J9 : fM, J9 = xTry K sc (P (sc + 1) x) (I k 2) (sLane i) (sTurn last t) := ⟨_, rfl⟩
                  refine fV_callVf (I' := I205) (st' := [.int (i32 (fB (xFreeB K P sc x (I k 2) (sLane i) (sTurn last t))))]) (n := 4) (k := sc) (K := 0) (As := [.int (i32 x), .int (i32 (I k 2)), .int (i32 (sLane i)), .int (i32 (sTurn last t))]) (rest := []) (pc' := 90) G (by rw [eI205]; exact mX0_isFree l Γ hN K P hs hKv hp hKw x (I k 2) (sLane i) (sTurn last t) (by rw [hKc]; exact hx) hwk.2.1 (sLane_b i) (by rw [← hke, hKk]; have := sTurn_in (last := last) (t := t) (by omega) (by omega) (by omega); omega)) kcX0_putAtFirstPlace_146 hn0 hs1 rfl rfl rfl (Nat.le_of_ble_eq_true rfl) (Nat.zero_le _) (Nat.zero_le _) dX0_putAtFirstPlace_87 rfl rfl ?_
                  refine fV_ifeq_b (tgt := 106) (pc' := 93) G dX0_putAtFirstPlace_90 (by decide) rfl (fun c206 => ?_) (fun c206 => ?_)
                  · have hno : ¬ ((0 ≤ sTurn last t ∧ sTurn last t ≤ last) ∧ fr (sLane i) (sTurn last t)) := fun z => by have z3 := z.2; rw [hfr] at z3; rw [xFreeB_t ((tEq_free hp (by omega) hv1.2 hK).mpr z3)] at c206; cases c206
                    refine fV_iinc (lv' := [(6, .int (i32 (t + 1))), (7, .int (i32 (sTurn last t))), (0, .ref (Γ.1 sc)), (1, .int (i32 x)), (2, .ref (Γ.1 k)), (3, .int (i32 last)), (4, .int (i32 (last / 2))), (5, .int (i32 i))]) (pc' := 109) G 7 dX0_putAtFirstPlace_106 rfl (by decide) rfl rfl ?_
                    refine fV_goto (tgt := 32) G dX0_putAtFirstPlace_109 (by decide) ?_
                    refine fV_lv (lv' := [(0, .ref (Γ.1 sc)), (1, .int (i32 x)), (2, .ref (Γ.1 k)), (3, .int (i32 last)), (4, .int (i32 (last / 2))), (5, .int (i32 i)), (6, .int (i32 (t + 1)))]) [2, 3, 4, 5, 6, 7, 0] rfl ?_
                    exact ih_lpb _ (by omega) (t + 1) I205 (by omega) (by rw [eI205]; exact tEq_try hK) (isF_step (sTF_is fr last (sLane i)) hq (by omega) hno) rfl
                  · have hfre := (tEq_free hp (by omega) hv1.2 hK).mp (xFreeB_iff.mp c206)
                    refine fV_aload_n (pc' := 94) G 3 dX0_putAtFirstPlace_93 rfl rfl rfl ?_
                    refine fV_getL (pc' := 97) G dX0_putAtFirstPlace_94 rfl ?_
                    refine fV_iload (pc' := 99) G 6 dX0_putAtFirstPlace_97 rfl rfl ?_
                    refine fV_ildL (pc' := 100) G (by omega) dX0_putAtFirstPlace_99 rfl ?_
                    refine fV_iload (pc' := 102) G 0 dX0_putAtFirstPlace_100 rfl rfl ?_
                    obtain ⟨I207, eI207⟩ : ∃ J9 : fM, J9 = fup (fup (fup I205 k 6 1) k 7 (sLane i)) k 8 (sTurn last t) := ⟨_, rfl⟩
                    refine fV_callVf (I' := I207) (st' := []) (n := 2) (k := k) (K := 2) (As := [.int (i32 (sLane i)), .int (i32 (sTurn last t))]) (rest := []) (pc' := 105) G (by rw [eI207]; exact mX2_putAt l Γ hN I205 P hkw (sLane i) (sTurn last t)) kcX0_putAtFirstPlace_132 (by omega) hk1 rfl rfl rfl (Nat.le_of_ble_eq_true rfl) (Nat.zero_le _) (Nat.zero_le _) dX0_putAtFirstPlace_102 rfl rfl ?_
                    refine fV_vret G dX0_putAtFirstPlace_105 ?_
                    exact ⟨rfl, rfl, by have e := place_hit (I := I) (K := I205) (P := P) (sc := sc) (x := x) (i := i) (t := t) (by omega) (by omega) (by rw [← hke, ← hla2, ← hfr2]; exact hr) (by rw [← hke, ← hla2, ← hfr2]; exact hq) (by rw [← hke, ← hla2]; exact ⟨hst, sTurn_in (by omega) (by omega) (by omega)⟩) (by rw [← hke, ← hla2]; exact hfre) (by rw [eI205]; exact tEq_try hK); rw [← hke, ← hla2] at e; rw [eI207]; exact e⟩
              · refine fV_iload (pc' := 49) G 4 dX0_putAtFirstPlace_47 rfl rfl ?_
                refine fV_iload (pc' := 51) G 6 dX0_putAtFirstPlace_49 rfl rfl ?_
                refine fV_iconst (pc' := 52) G dX0_putAtFirstPlace_51 rfl ?_
                refine fV_idiv (pc' := 53) G dX0_putAtFirstPlace_52 rfl (by omega) (by omega) ?_
                refine fV_iadd (pc' := 54) G dX0_putAtFirstPlace_53 rfl ?_
                refine fV_goto (tgt := 66) G dX0_putAtFirstPlace_54 (by decide) ?_
                have htb : -100 ≤ sTurn last t ∧ sTurn last t ≤ 100 := by unfold sTurn; split <;> omega
                refine fV_top (b := sTurn last t) (by unfold sTurn; first | rw [if_pos (by omega)] | rw [if_neg (by omega)]) ?_
                refine fV_istore (lv' := [(7, .int (i32 (sTurn last t))), (0, .ref (Γ.1 sc)), (1, .int (i32 x)), (2, .ref (Γ.1 k)), (3, .int (i32 last)), (4, .int (i32 (last / 2))), (5, .int (i32 i)), (6, .int (i32 t))]) (pc' := 68) G dX0_putAtFirstPlace_66 (by decide) rfl rfl ?_
                refine fV_iload (pc' := 70) G 0 dX0_putAtFirstPlace_68 rfl rfl ?_
                refine fV_if_lt (tgt := 106) (pc' := 73) G dX0_putAtFirstPlace_70 (by decide) rfl (by omega) (fun c204 => ?_) (fun c204 => ?_)
                · have hno : ¬ ((0 ≤ sTurn last t ∧ sTurn last t ≤ last) ∧ fr (sLane i) (sTurn last t)) := fun z => absurd z.1.1 (by omega)
                  refine fV_iinc (lv' := [(6, .int (i32 (t + 1))), (7, .int (i32 (sTurn last t))), (0, .ref (Γ.1 sc)), (1, .int (i32 x)), (2, .ref (Γ.1 k)), (3, .int (i32 last)), (4, .int (i32 (last / 2))), (5, .int (i32 i))]) (pc' := 109) G 7 dX0_putAtFirstPlace_106 rfl (by decide) rfl rfl ?_
                  refine fV_goto (tgt := 32) G dX0_putAtFirstPlace_109 (by decide) ?_
                  refine fV_lv (lv' := [(0, .ref (Γ.1 sc)), (1, .int (i32 x)), (2, .ref (Γ.1 k)), (3, .int (i32 last)), (4, .int (i32 (last / 2))), (5, .int (i32 i)), (6, .int (i32 (t + 1)))]) [2, 3, 4, 5, 6, 7, 0] rfl ?_
                  exact ih_lpb _ (by omega) (t + 1) K (by omega) hK (isF_step (sTF_is fr last (sLane i)) hq (by omega) hno) rfl
                · have hst : 0 ≤ sTurn last t := by omega
                  refine fV_aload_n (pc' := 74) G 1 dX0_putAtFirstPlace_73 rfl rfl rfl ?_
                  refine fV_iload_n (pc' := 75) G 2 dX0_putAtFirstPlace_74 rfl rfl rfl ?_
                  refine fV_aload_n (pc' := 76) G 3 dX0_putAtFirstPlace_75 rfl rfl rfl ?_
                  refine fV_get (K := 2) (v := .int (i32 (K k 2))) (pc' := 79) G kfX0_putAtFirstPlace_55 (by omega) hk1 rfl rfl dX0_putAtFirstPlace_76 rfl ?_
                  refine fV_top (b := I k 2) (by rw [hKk]) ?_
                  refine fV_getL (pc' := 82) G dX0_putAtFirstPlace_79 rfl ?_
                  refine fV_iload (pc' := 84) G 6 dX0_putAtFirstPlace_82 rfl rfl ?_
                  refine fV_ildL (pc' := 85) G (by omega) dX0_putAtFirstPlace_84 rfl ?_
                  refine fV_iload (pc' := 87) G 0 dX0_putAtFirstPlace_85 rfl rfl ?_
                  obtain ⟨I205, eI205⟩ : ∃ J9 : fM, J9 = xTry K sc (P (sc + 1) x) (I k 2) (sLane i) (sTurn last t) := ⟨_, rfl⟩
                  refine fV_callVf (I' := I205) (st' := [.int (i32 (fB (xFreeB K P sc x (I k 2) (sLane i) (sTurn last t))))]) (n := 4) (k := sc) (K := 0) (As := [.int (i32 x), .int (i32 (I k 2)), .int (i32 (sLane i)), .int (i32 (sTurn last t))]) (rest := []) (pc' := 90) G (by rw [eI205]; exact mX0_isFree l Γ hN K P hs hKv hp hKw x (I k 2) (sLane i) (sTurn last t) (by rw [hKc]; exact hx) hwk.2.1 (sLane_b i) (by rw [← hke, hKk]; have := sTurn_in (last := last) (t := t) (by omega) (by omega) (by omega); omega)) kcX0_putAtFirstPlace_146 hn0 hs1 rfl rfl rfl (Nat.le_of_ble_eq_true rfl) (Nat.zero_le _) (Nat.zero_le _) dX0_putAtFirstPlace_87 rfl rfl ?_
                  refine fV_ifeq_b (tgt := 106) (pc' := 93) G dX0_putAtFirstPlace_90 (by decide) rfl (fun c206 => ?_) (fun c206 => ?_)
                  · have hno : ¬ ((0 ≤ sTurn last t ∧ sTurn last t ≤ last) ∧ fr (sLane i) (sTurn last t)) := fun z => by have z3 := z.2; rw [hfr] at z3; rw [xFreeB_t ((tEq_free hp (by omega) hv1.2 hK).mpr z3)] at c206; cases c206
                    refine fV_iinc (lv' := [(6, .int (i32 (t + 1))), (7, .int (i32 (sTurn last t))), (0, .ref (Γ.1 sc)), (1, .int (i32 x)), (2, .ref (Γ.1 k)), (3, .int (i32 last)), (4, .int (i32 (last / 2))), (5, .int (i32 i))]) (pc' := 109) G 7 dX0_putAtFirstPlace_106 rfl (by decide) rfl rfl ?_
                    refine fV_goto (tgt := 32) G dX0_putAtFirstPlace_109 (by decide) ?_
                    refine fV_lv (lv' := [(0, .ref (Γ.1 sc)), (1, .int (i32 x)), (2, .ref (Γ.1 k)), (3, .int (i32 last)), (4, .int (i32 (last / 2))), (5, .int (i32 i)), (6, .int (i32 (t + 1)))]) [2, 3, 4, 5, 6, 7, 0] rfl ?_
                    exact ih_lpb _ (by omega) (t + 1) I205 (by omega) (by rw [eI205]; exact tEq_try hK) (isF_step (sTF_is fr last (sLane i)) hq (by omega) hno) rfl
                  · have hfre := (tEq_free hp (by omega) hv1.2 hK).mp (xFreeB_iff.mp c206)
                    refine fV_aload_n (pc' := 94) G 3 dX0_putAtFirstPlace_93 rfl rfl rfl ?_
                    refine fV_getL (pc' := 97) G dX0_putAtFirstPlace_94 rfl ?_
                    refine fV_iload (pc' := 99) G 6 dX0_putAtFirstPlace_97 rfl rfl ?_
                    refine fV_ildL (pc' := 100) G (by omega) dX0_putAtFirstPlace_99 rfl ?_
                    refine fV_iload (pc' := 102) G 0 dX0_putAtFirstPlace_100 rfl rfl ?_
                    obtain ⟨I207, eI207⟩ : ∃ J9 : fM, J9 = fup (fup (fup I205 k 6 1) k 7 (sLane i)) k 8 (sTurn last t) := ⟨_, rfl⟩
                    refine fV_callVf (I' := I207) (st' := []) (n := 2) (k := k) (K := 2) (As := [.int (i32 (sLane i)), .int (i32 (sTurn last t))]) (rest := []) (pc' := 105) G (by rw [eI207]; exact mX2_putAt l Γ hN I205 P hkw (sLane i) (sTurn last t)) kcX0_putAtFirstPlace_132 (by omega) hk1 rfl rfl rfl (Nat.le_of_ble_eq_true rfl) (Nat.zero_le _) (Nat.zero_le _) dX0_putAtFirstPlace_102 rfl rfl ?_
                    refine fV_vret G dX0_putAtFirstPlace_105 ?_
                    exact ⟨rfl, rfl, by have e := place_hit (I := I) (K := I205) (P := P) (sc := sc) (x := x) (i := i) (t := t) (by omega) (by omega) (by rw [← hke, ← hla2, ← hfr2]; exact hr) (by rw [← hke, ← hla2, ← hfr2]; exact hq) (by rw [← hke, ← hla2]; exact ⟨hst, sTurn_in (by omega) (by omega) (by omega)⟩) (by rw [← hke, ← hla2]; exact hfre) (by rw [eI205]; exact tEq_try hK); rw [← hke, ← hla2] at e; rw [eI207]; exact e⟩
        refine fV_lv (lv' := [(0, .ref (Γ.1 sc)), (1, .int (i32 x)), (2, .ref (Γ.1 k)), (3, .int (i32 last)), (4, .int (i32 (last / 2))), (5, .int (i32 i)), (6, .int (i32 0))]) [1, 2, 3, 4, 5, 6, 0] rfl ?_
        exact lpb _ 0 J (by omega) hJ ((sTF_is fr last (sLane i)).1.1) rfl
  refine fV_lv (lv' := [(0, .ref (Γ.1 sc)), (1, .int (i32 x)), (2, .ref (Γ.1 k)), (3, .int (i32 last)), (4, .int (i32 (last / 2))), (5, .int (i32 0))]) [4, 5, 3, 2, 1, 0] rfl ?_
  exact lp _ 0 I (by omega) (fun _ _ _ => rfl) ((sLF_is fr last).1.1) rfl
