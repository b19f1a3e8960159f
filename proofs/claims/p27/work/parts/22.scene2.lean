/-! CONTRACTS 6: a scene's reads, second part (rows laid by wip/whole/gen/con6.py) -/
set_option maxHeartbeats 4000000 in
set_option maxRecDepth 100000 in
theorem mX0_countMeetingPairs (l : Launch) (Γ : fG) {N : Nat} (hN : 214 ≤ N) (I : fM) (P : fN) {sc : Nat} (hs : fSc sc) (hv : fSv I sc) (hp : fPs P sc) (hww : ∀ w : Int, 0 ≤ w → w < I sc 1 → fWv I (P (sc + 1) w)) : fMet l yX0_countMeetingPairs wsX0_countMeetingPairs rmX0_countMeetingPairs Γ N [.ref (Γ.1 sc)] I P (fE (some (.int (i32 (qXPairs I P sc)))) I P) := by
  refine fMet_of (own := RX0) (cc := cX0_countMeetingPairs) (maxL := 4) (ret := (some .int)) rfl (by decide +kernel) rfl (Nat.le_of_ble_eq_true rfl) ?_
  intro p e s m args below meth c G
  obtain ⟨hs0, hs1, hs2, hs3, hs4, hs5, hs6⟩ := fSc_k hs
  have hn0 : sc < N := by omega
  have hn1 : sc + 1 < N := by omega
  have hn2 : sc + 2 < N := by omega
  obtain ⟨hv1, hv3, hv4, hvs⟩ := id hv
  refine fV_lv (lv' := [(0, .ref (Γ.1 sc))]) [0] rfl ?_
  refine fV_iconst (pc' := 1) G dX0_countMeetingPairs_0 rfl ?_
  refine fV_istore_n (lv' := [(1, .int (i32 0)), (0, .ref (Γ.1 sc))]) (pc' := 2) G dX0_countMeetingPairs_1 rfl (by decide) rfl rfl ?_
  refine fV_iconst (pc' := 3) G dX0_countMeetingPairs_2 rfl ?_
  refine fV_istore_n (lv' := [(2, .int (i32 0)), (1, .int (i32 0)), (0, .ref (Γ.1 sc))]) (pc' := 4) G dX0_countMeetingPairs_3 rfl (by decide) rfl rfl ?_
  have lpo : ∀ (z : Nat) (a : Int) (q : Int), 0 ≤ a ∧ a ≤ I sc 1 → q = sSum (fun a => sSum (fun b => if a < b ∧ xMet I P sc a b ≠ -19 then 1 else 0) (I sc 1)) a → ((I sc 1 - a).toNat) = z → fV p l e rmX0_countMeetingPairs s m args below meth c (MQ below (fQ Γ N (fE (some (.int (i32 (qXPairs I P sc)))) I P)) args s 0 0 (fA Γ N)) (fA Γ N) Γ N 4 0 0 I P 4 [(0, .ref (Γ.1 sc)), (1, .int (i32 q)), (2, .int (i32 a))] [] := by
    intro z
    induction z using Nat.strongRecOn with
    | _ z ih_lpo =>
      intro a q ha hq hz_lpo
      refine fV_iload_n (pc' := 5) G 2 dX0_countMeetingPairs_4 rfl rfl rfl ?_
      refine fV_aload_n (pc' := 6) G 0 dX0_countMeetingPairs_5 rfl rfl rfl ?_
      refine fV_get (K := 0) (v := .int (i32 (I sc 1))) (pc' := 9) G kfX0_countMeetingPairs_33 hn0 hs1 rfl rfl dX0_countMeetingPairs_6 rfl ?_
      refine fV_icmp_ge (tgt := 60) (pc' := 12) G dX0_countMeetingPairs_9 (by decide) rfl (by omega) (by omega) (fun c101 => ?_) (fun c101 => ?_)
      · refine fV_iload_n (pc' := 61) G 1 dX0_countMeetingPairs_60 rfl rfl rfl ?_
        refine fV_iret G dX0_countMeetingPairs_61 ?_
        exact fE_i (by unfold qXPairs; rw [hq, show a = I sc 1 by omega])
      · refine fV_iload_n (pc' := 13) G 2 dX0_countMeetingPairs_12 rfl rfl rfl ?_
        refine fV_iconst (pc' := 14) G dX0_countMeetingPairs_13 rfl ?_
        refine fV_iadd (pc' := 15) G dX0_countMeetingPairs_14 rfl ?_
        refine fV_istore_n (lv' := [(3, .int (i32 (a + 1))), (0, .ref (Γ.1 sc)), (1, .int (i32 q)), (2, .int (i32 a))]) (pc' := 16) G dX0_countMeetingPairs_15 rfl (by decide) rfl rfl ?_
        have lpi : ∀ (z : Nat) (b : Int) (t : Int), a + 1 ≤ b ∧ b ≤ I sc 1 → t = q + sSum (fun b => if a < b ∧ xMet I P sc a b ≠ -19 then 1 else 0) b → ((I sc 1 - b).toNat) = z → fV p l e rmX0_countMeetingPairs s m args below meth c (MQ below (fQ Γ N (fE (some (.int (i32 (qXPairs I P sc)))) I P)) args s 0 0 (fA Γ N)) (fA Γ N) Γ N 4 0 0 I P 16 [(0, .ref (Γ.1 sc)), (1, .int (i32 t)), (2, .int (i32 a)), (3, .int (i32 b))] [] := by
          intro z
          induction z using Nat.strongRecOn with
          | _ z ih_lpi =>
            intro b t hb ht hz_lpi
            refine fV_iload_n (pc' := 17) G 3 dX0_countMeetingPairs_16 rfl rfl rfl ?_
            refine fV_aload_n (pc' := 18) G 0 dX0_countMeetingPairs_17 rfl rfl rfl ?_
            refine fV_get (K := 0) (v := .int (i32 (I sc 1))) (pc' := 21) G kfX0_countMeetingPairs_33 hn0 hs1 rfl rfl dX0_countMeetingPairs_18 rfl ?_
            refine fV_icmp_ge (tgt := 54) (pc' := 24) G dX0_countMeetingPairs_21 (by decide) rfl (by omega) (by omega) (fun c202 => ?_) (fun c202 => ?_)
            · refine fV_iinc (lv' := [(2, .int (i32 (a + 1))), (0, .ref (Γ.1 sc)), (1, .int (i32 t)), (3, .int (i32 b))]) (pc' := 57) G 2 dX0_countMeetingPairs_54 rfl (by decide) rfl rfl ?_
              refine fV_goto (tgt := 4) G dX0_countMeetingPairs_57 (by decide) ?_
              refine fV_lv (lv' := [(0, .ref (Γ.1 sc)), (1, .int (i32 t)), (2, .int (i32 (a + 1)))]) [1, 2, 0] rfl ?_
              exact ih_lpo _ (by omega) (a + 1) t (by omega) (by rw [sSum_s (by omega), ← hq, ht, show b = I sc 1 by omega]) rfl
            · refine fV_aload_n (pc' := 25) G 0 dX0_countMeetingPairs_24 rfl rfl rfl ?_
              refine fV_aload_n (pc' := 26) G 0 dX0_countMeetingPairs_25 rfl rfl rfl ?_
              refine fV_get (K := 0) (v := .ref (Γ.1 (sc + 1))) (pc' := 29) G kfX0_countMeetingPairs_11 hn0 hs1 rfl rfl dX0_countMeetingPairs_26 rfl ?_
              refine fV_iload_n (pc' := 30) G 2 dX0_countMeetingPairs_29 rfl rfl rfl ?_
              refine fV_aald (K := 11) (n := 12) (t := 1) (pc' := 31) G hn1 hs2 (fun _ _ => rfl) rfl (by decide) (by omega) dX0_countMeetingPairs_30 rfl ?_
              refine fV_aload_n (pc' := 32) G 0 dX0_countMeetingPairs_31 rfl rfl rfl ?_
              refine fV_get (K := 0) (v := .ref (Γ.1 (sc + 1))) (pc' := 35) G kfX0_countMeetingPairs_11 hn0 hs1 rfl rfl dX0_countMeetingPairs_32 rfl ?_
              refine fV_iload_n (pc' := 36) G 3 dX0_countMeetingPairs_35 rfl rfl rfl ?_
              refine fV_aald (K := 11) (n := 12) (t := 1) (pc' := 37) G hn1 hs2 (fun _ _ => rfl) rfl (by decide) (by omega) dX0_countMeetingPairs_36 rfl ?_
              refine fV_callVf (st' := [.int (i32 (xMet I P sc a b))]) (n := 2) (k := sc) (K := 0) (As := [.ref (Γ.1 (P (sc + 1) a)), .ref (Γ.1 (P (sc + 1) b))]) (rest := []) (pc' := 40) G (mX0_firstMeeting l Γ hN I P hs hv (fPs_w hs hp (by omega) (by omega)) (hww _ (by omega) (by omega)) (fPs_w hs hp (by omega) (by omega)) (hww _ (by omega) (by omega))) kcX0_countMeetingPairs_71 hn0 hs1 rfl rfl rfl (Nat.le_of_ble_eq_true rfl) (Nat.zero_le _) (Nat.zero_le _) dX0_countMeetingPairs_37 rfl rfl ?_
              have hmb : -19 ≤ xMet I P sc a b ∧ xMet I P sc a b ≤ 2300 := sMeet_b hv (hww a (by omega) (by omega)) (hww b (by omega) (by omega))
              refine fV_bipush (n := -19) (pc' := 42) G dX0_countMeetingPairs_40 rfl rfl ?_
              refine fV_icmp_eq (tgt := 48) (pc' := 45) G dX0_countMeetingPairs_42 (by decide) rfl (by omega) (by decide) (fun c203 => ?_) (fun c203 => ?_)
              · have hmt := c203
                refine fV_iinc (lv' := [(3, .int (i32 (b + 1))), (0, .ref (Γ.1 sc)), (1, .int (i32 t)), (2, .int (i32 a))]) (pc' := 51) G 3 dX0_countMeetingPairs_48 rfl (by decide) rfl rfl ?_
                refine fV_goto (tgt := 16) G dX0_countMeetingPairs_51 (by decide) ?_
                refine fV_lv (lv' := [(0, .ref (Γ.1 sc)), (1, .int (i32 t)), (2, .int (i32 a)), (3, .int (i32 (b + 1)))]) [1, 2, 3, 0] rfl ?_
                exact ih_lpi _ (by omega) (b + 1) t (by omega) (by rw [sSum_s (by omega)]; (try dsimp only); first | (rw [if_pos ⟨by omega, hmt⟩]; omega) | (rw [if_neg (fun z => z.2 hmt)]; omega)) rfl
              · have hmt := c203
                refine fV_iinc (lv' := [(1, .int (i32 (t + 1))), (0, .ref (Γ.1 sc)), (2, .int (i32 a)), (3, .int (i32 b))]) (pc' := 48) G 1 dX0_countMeetingPairs_45 rfl (by decide) rfl rfl ?_
                refine fV_iinc (lv' := [(3, .int (i32 (b + 1))), (1, .int (i32 (t + 1))), (0, .ref (Γ.1 sc)), (2, .int (i32 a))]) (pc' := 51) G 3 dX0_countMeetingPairs_48 rfl (by decide) rfl rfl ?_
                refine fV_goto (tgt := 16) G dX0_countMeetingPairs_51 (by decide) ?_
                refine fV_lv (lv' := [(0, .ref (Γ.1 sc)), (1, .int (i32 (t + 1))), (2, .int (i32 a)), (3, .int (i32 (b + 1)))]) [2, 1, 3, 0] rfl ?_
                exact ih_lpi _ (by omega) (b + 1) (t + 1) (by omega) (by rw [sSum_s (by omega)]; (try dsimp only); first | (rw [if_pos ⟨by omega, hmt⟩]; omega) | (rw [if_neg (fun z => z.2 hmt)]; omega)) rfl
        refine fV_lv (lv' := [(0, .ref (Γ.1 sc)), (1, .int (i32 q)), (2, .int (i32 a)), (3, .int (i32 (a + 1)))]) [1, 2, 3, 0] rfl ?_
        exact lpi _ (a + 1) q (by omega) (by rw [xPairs_0 (by omega)]; omega) rfl
  refine fV_lv (lv' := [(0, .ref (Γ.1 sc)), (1, .int (i32 0)), (2, .int (i32 0))]) [2, 1, 0] rfl ?_
  exact lpo _ 0 0 (by omega) (by rw [sSum_0]) rfl
set_option maxHeartbeats 4000000 in
set_option maxRecDepth 100000 in
theorem mX0_cellsInRow (l : Launch) (Γ : fG) {N : Nat} (hN : 214 ≤ N) (I : fM) (P : fN) {sc : Nat} (hs : fSc sc) (hv : fSv I sc) (hp : fPs P sc) (hww : ∀ w : Int, 0 ≤ w → w < I sc 1 → fWv I (P (sc + 1) w)) (row f : Int) (hro : 0 ≤ row ∧ row ≤ 7) (hf : 0 ≤ f ∧ f ≤ 4000) : fMet l yX0_cellsInRow wsX0_cellsInRow rmX0_cellsInRow Γ N [.ref (Γ.1 sc), .int (i32 row), .int (i32 f)] I P (fun v I' P' => ∃ L : Int64, v = some (.long L) ∧ sBits L (xCell I P sc row f) ∧ I' = I ∧ P' = P) := by
  refine fMet_of (own := RX0) (cc := cX0_cellsInRow) (maxL := 10) (ret := (some .long)) rfl (by decide +kernel) rfl (Nat.le_of_ble_eq_true rfl) ?_
  intro p e s m args below meth c G
  obtain ⟨hs0, hs1, hs2, hs3, hs4, hs5, hs6⟩ := fSc_k hs
  have hn0 : sc < N := by omega
  have hn1 : sc + 1 < N := by omega
  have hn2 : sc + 2 < N := by omega
  obtain ⟨hv1, hv3, hv4, hvs⟩ := id hv
  refine fV_lv (lv' := [(0, .ref (Γ.1 sc)), (1, .int (i32 row)), (2, .int (i32 f))]) [0, 1, 2] rfl ?_
  refine fV_lconst (v := 0) (pc' := 1) G dX0_cellsInRow_0 rfl rfl ?_
  refine fV_lstore_n (lv' := [(3, .long (i64 0)), (0, .ref (Γ.1 sc)), (1, .int (i32 row)), (2, .int (i32 f))]) (pc' := 2) G dX0_cellsInRow_1 rfl (by decide) rfl rfl ?_
  refine fV_iconst (pc' := 3) G dX0_cellsInRow_2 rfl ?_
  refine fV_istore (lv' := [(5, .int (i32 0)), (3, .long (i64 0)), (0, .ref (Γ.1 sc)), (1, .int (i32 row)), (2, .int (i32 f))]) (pc' := 5) G dX0_cellsInRow_3 (by decide) rfl rfl ?_
  have lpo : ∀ (z : Nat) (i : Int) (L : Int64), 0 ≤ i ∧ i ≤ I sc 1 → sBits L (fun j => j < 40 ∧ ∃ w, 0 ≤ w ∧ w < i ∧ xHas I P sc w row j f) → ((I sc 1 - i).toNat) = z → fV p l e rmX0_cellsInRow s m args below meth c (MQ below (fQ Γ N (fun v I' P' => ∃ L : Int64, v = some (.long L) ∧ sBits L (xCell I P sc row f) ∧ I' = I ∧ P' = P)) args s 0 0 (fA Γ N)) (fA Γ N) Γ N 10 0 0 I P 5 [(0, .ref (Γ.1 sc)), (1, .int (i32 row)), (2, .int (i32 f)), (3, .long L), (5, .int (i32 i))] [] := by
    intro z
    induction z using Nat.strongRecOn with
    | _ z ih_lpo =>
      intro i L hi hL hz_lpo
      refine fV_iload (pc' := 7) G 4 dX0_cellsInRow_5 rfl rfl ?_
      refine fV_aload_n (pc' := 8) G 0 dX0_cellsInRow_7 rfl rfl rfl ?_
      refine fV_get (K := 0) (v := .int (i32 (I sc 1))) (pc' := 11) G kfX0_cellsInRow_33 hn0 hs1 rfl rfl dX0_cellsInRow_8 rfl ?_
      refine fV_icmp_ge (tgt := 102) (pc' := 14) G dX0_cellsInRow_11 (by decide) rfl (by omega) (by omega) (fun c101 => ?_) (fun c101 => ?_)
      · refine fV_lload_n (pc' := 103) G 3 dX0_cellsInRow_102 rfl rfl rfl ?_
        refine fV_lret G dX0_cellsInRow_103 ?_
        exact ⟨L, rfl, by rw [show i = I sc 1 by omega] at hL; exact hL, rfl, rfl⟩
      · have hkw := hww i (by omega) (by omega)
        obtain ⟨hw1, hw2, hw3, hw4, hw5, hw6, hw7⟩ := id hkw
        refine fV_aload_n (pc' := 15) G 0 dX0_cellsInRow_14 rfl rfl rfl ?_
        refine fV_get (K := 0) (v := .ref (Γ.1 (sc + 1))) (pc' := 18) G kfX0_cellsInRow_11 hn0 hs1 rfl rfl dX0_cellsInRow_15 rfl ?_
        refine fV_iload (pc' := 20) G 4 dX0_cellsInRow_18 rfl rfl ?_
        refine fV_aald (K := 11) (n := 12) (t := 1) (pc' := 21) G hn1 hs2 (fun _ _ => rfl) rfl (by decide) (by omega) dX0_cellsInRow_20 rfl ?_
        refine fV_astore (lv' := [(6, .ref (Γ.1 (P (sc + 1) i))), (0, .ref (Γ.1 sc)), (1, .int (i32 row)), (2, .int (i32 f)), (3, .long L), (5, .int (i32 i))]) (pc' := 23) G dX0_cellsInRow_21 (by decide) rfl rfl ?_
        refine fV_aload_n (pc' := 24) G 1 dX0_cellsInRow_23 rfl rfl rfl ?_
        refine fV_aload (pc' := 26) G 0 dX0_cellsInRow_24 rfl rfl ?_
        refine fV_iload_n (pc' := 27) G 3 dX0_cellsInRow_26 rfl rfl rfl ?_
        refine fV_callVf (st' := [.int (i32 (fB (decide (xVis I P sc i f))))]) (n := 2) (k := sc) (K := 0) (As := [.ref (Γ.1 (P (sc + 1) i)), .int (i32 f)]) (rest := []) (pc' := 30) G (mX0_isVisible l Γ hN I P hs hv (fPs_w hs hp (by omega) (by omega)) (hww _ (by omega) (by omega)) f (by omega)) kcX0_cellsInRow_109 hn0 hs1 rfl rfl rfl (Nat.le_of_ble_eq_true rfl) (Nat.zero_le _) (Nat.zero_le _) dX0_cellsInRow_27 rfl rfl ?_
        refine fV_ifeq_b (tgt := 96) (pc' := 33) G dX0_cellsInRow_30 (by decide) rfl (fun c102 => ?_) (fun c102 => ?_)
        · have d102 : ¬ (xVis I P sc i f) := of_decide_eq_false c102
          have hno : ∀ j, ¬ xHas I P sc i row j f := fun j z => d102 z.1
          have hLn : sBits L (fun j => j < 40 ∧ ∃ w, 0 ≤ w ∧ w < i + 1 ∧ xHas I P sc w row j f) := sBits_c hL (cell_skip hno)
          refine fV_iinc (lv' := [(5, .int (i32 (i + 1))), (6, .ref (Γ.1 (P (sc + 1) i))), (0, .ref (Γ.1 sc)), (1, .int (i32 row)), (2, .int (i32 f)), (3, .long L)]) (pc' := 99) G 5 dX0_cellsInRow_96 rfl (by decide) rfl rfl ?_
          refine fV_goto (tgt := 5) G dX0_cellsInRow_99 (by decide) ?_
          refine fV_lv (lv' := [(0, .ref (Γ.1 sc)), (1, .int (i32 row)), (2, .int (i32 f)), (3, .long L), (5, .int (i32 (i + 1)))]) [2, 3, 4, 5, 0] rfl ?_
          exact ih_lpo _ (by omega) (i + 1) L (by omega) hLn rfl
        · have d102 : (xVis I P sc i f) := of_decide_eq_true c102
          have hvis : xVis I P sc i f := d102
          have hput : I (P (sc + 1) i) 6 = 1 := hvis.1
          have hrb := sRowX_b hv4 hkw (f := f) (by omega) hput
          have hcb := sColX_b hv4 hkw (f := f) (by omega) hput
          refine fV_aload_n (pc' := 34) G 1 dX0_cellsInRow_33 rfl rfl rfl ?_
          refine fV_aload (pc' := 36) G 0 dX0_cellsInRow_34 rfl rfl ?_
          refine fV_iload_n (pc' := 37) G 3 dX0_cellsInRow_36 rfl rfl rfl ?_
          refine fV_callVf (st' := [.int (i32 (sRowX (I sc 4) (I (P (sc + 1) i)) f))]) (n := 2) (k := sc) (K := 0) (As := [.ref (Γ.1 (P (sc + 1) i)), .int (i32 f)]) (rest := []) (pc' := 40) G (mX0_rowOf l Γ hN I P hs hv4 (fPs_w hs hp (by omega) (by omega)) (hww _ (by omega) (by omega)) f (by omega)) kcX0_cellsInRow_113 hn0 hs1 rfl rfl rfl (Nat.le_of_ble_eq_true rfl) (Nat.zero_le _) (Nat.zero_le _) dX0_cellsInRow_37 rfl rfl ?_
          refine fV_iload_n (pc' := 41) G 2 dX0_cellsInRow_40 rfl rfl rfl ?_
          refine fV_icmp_ne (tgt := 96) (pc' := 44) G dX0_cellsInRow_41 (by decide) rfl (by omega) (by omega) (fun c103 => ?_) (fun c103 => ?_)
          · have hno : ∀ j, ¬ xHas I P sc i row j f := fun j z => c103 z.2.1
            have hLn : sBits L (fun j => j < 40 ∧ ∃ w, 0 ≤ w ∧ w < i + 1 ∧ xHas I P sc w row j f) := sBits_c hL (cell_skip hno)
            refine fV_iinc (lv' := [(5, .int (i32 (i + 1))), (6, .ref (Γ.1 (P (sc + 1) i))), (0, .ref (Γ.1 sc)), (1, .int (i32 row)), (2, .int (i32 f)), (3, .long L)]) (pc' := 99) G 5 dX0_cellsInRow_96 rfl (by decide) rfl rfl ?_
            refine fV_goto (tgt := 5) G dX0_cellsInRow_99 (by decide) ?_
            refine fV_lv (lv' := [(0, .ref (Γ.1 sc)), (1, .int (i32 row)), (2, .int (i32 f)), (3, .long L), (5, .int (i32 (i + 1)))]) [2, 3, 4, 5, 0] rfl ?_
            exact ih_lpo _ (by omega) (i + 1) L (by omega) hLn rfl
          · have hrow := c103
            refine fV_aload_n (pc' := 45) G 1 dX0_cellsInRow_44 rfl rfl rfl ?_
            refine fV_aload (pc' := 47) G 0 dX0_cellsInRow_45 rfl rfl ?_
            refine fV_iload_n (pc' := 48) G 3 dX0_cellsInRow_47 rfl rfl rfl ?_
            refine fV_callVf (st' := [.int (i32 (sColX (I sc 4) (I (P (sc + 1) i)) f))]) (n := 2) (k := sc) (K := 0) (As := [.ref (Γ.1 (P (sc + 1) i)), .int (i32 f)]) (rest := []) (pc' := 51) G (mX0_columnOf l Γ hN I P hs hv4 (fPs_w hs hp (by omega) (by omega)) (hww _ (by omega) (by omega)) f (by omega)) kcX0_cellsInRow_117 hn0 hs1 rfl rfl rfl (Nat.le_of_ble_eq_true rfl) (Nat.zero_le _) (Nat.zero_le _) dX0_cellsInRow_48 rfl rfl ?_
            refine fV_istore (lv' := [(7, .int (i32 (sColX (I sc 4) (I (P (sc + 1) i)) f))), (6, .ref (Γ.1 (P (sc + 1) i))), (0, .ref (Γ.1 sc)), (1, .int (i32 row)), (2, .int (i32 f)), (3, .long L), (5, .int (i32 i))]) (pc' := 53) G dX0_cellsInRow_51 (by decide) rfl rfl ?_
            refine fV_iload (pc' := 55) G 0 dX0_cellsInRow_53 rfl rfl ?_
            refine fV_aload (pc' := 57) G 1 dX0_cellsInRow_55 rfl rfl ?_
            refine fV_get (K := 2) (v := .int (i32 (I (P (sc + 1) i) 1))) (pc' := 60) G kfX0_cellsInRow_52 (by have := (fPs_w hs hp (w := i) (by omega) (by omega)).1; omega) (fPs_w hs hp (by omega) (by omega)).2.1 rfl rfl dX0_cellsInRow_57 rfl ?_
            refine fV_iadd (pc' := 61) G dX0_cellsInRow_60 rfl ?_
            refine fV_bipush (n := 40) (pc' := 63) G dX0_cellsInRow_61 rfl rfl ?_
            refine fV_mmin (pc' := 66) G kcX0_cellsInRow_97 ⟨Nat.le_of_ble_eq_true rfl, Nat.le_of_ble_eq_true rfl⟩ (Nat.zero_le _) (Nat.zero_le _) (by omega) (by decide) dX0_cellsInRow_63 rfl ?_
            refine fV_istore (lv' := [(8, .int (i32 (min ((sColX (I sc 4) (I (P (sc + 1) i)) f) + (I (P (sc + 1) i) 1)) 40))), (7, .int (i32 (sColX (I sc 4) (I (P (sc + 1) i)) f))), (6, .ref (Γ.1 (P (sc + 1) i))), (0, .ref (Γ.1 sc)), (1, .int (i32 row)), (2, .int (i32 f)), (3, .long L), (5, .int (i32 i))]) (pc' := 68) G dX0_cellsInRow_66 (by decide) rfl rfl ?_
            refine fV_iload (pc' := 70) G 1 dX0_cellsInRow_68 rfl rfl ?_
            refine fV_iconst (pc' := 71) G dX0_cellsInRow_70 rfl ?_
            refine fV_mmax (pc' := 74) G kcX0_cellsInRow_120 ⟨Nat.le_of_ble_eq_true rfl, Nat.le_of_ble_eq_true rfl⟩ (Nat.zero_le _) (Nat.zero_le _) (by omega) (by decide) dX0_cellsInRow_71 rfl ?_
            refine fV_istore (lv' := [(9, .int (i32 (max (sColX (I sc 4) (I (P (sc + 1) i)) f) 0))), (8, .int (i32 (min ((sColX (I sc 4) (I (P (sc + 1) i)) f) + (I (P (sc + 1) i) 1)) 40))), (7, .int (i32 (sColX (I sc 4) (I (P (sc + 1) i)) f))), (6, .ref (Γ.1 (P (sc + 1) i))), (0, .ref (Γ.1 sc)), (1, .int (i32 row)), (2, .int (i32 f)), (3, .long L), (5, .int (i32 i))]) (pc' := 76) G dX0_cellsInRow_74 (by decide) rfl rfl ?_
            have lpi : ∀ (z : Nat) (cq : Int) (M : Int64), max (sColX (I sc 4) (I (P (sc + 1) i)) f) 0 ≤ cq ∧ (cq ≤ 300000 ∧ (max (sColX (I sc 4) (I (P (sc + 1) i)) f) 0 ≤ min (sColX (I sc 4) (I (P (sc + 1) i)) f + I (P (sc + 1) i) 1) 40 → cq ≤ min (sColX (I sc 4) (I (P (sc + 1) i)) f + I (P (sc + 1) i) 1) 40) ∧ (min (sColX (I sc 4) (I (P (sc + 1) i)) f + I (P (sc + 1) i) 1) 40 < max (sColX (I sc 4) (I (P (sc + 1) i)) f) 0 → cq = max (sColX (I sc 4) (I (P (sc + 1) i)) f) 0)) → sBits M (fun j => (fun j => j < 40 ∧ ∃ w, 0 ≤ w ∧ w < i ∧ xHas I P sc w row j f) j ∨ (max (sColX (I sc 4) (I (P (sc + 1) i)) f) 0 ≤ j ∧ j < cq)) → ((40 - cq).toNat) = z → fV p l e rmX0_cellsInRow s m args below meth c (MQ below (fQ Γ N (fun v I' P' => ∃ L : Int64, v = some (.long L) ∧ sBits L (xCell I P sc row f) ∧ I' = I ∧ P' = P)) args s 0 0 (fA Γ N)) (fA Γ N) Γ N 10 0 0 I P 76 [(0, .ref (Γ.1 sc)), (1, .int (i32 row)), (2, .int (i32 f)), (3, .long M), (5, .int (i32 i)), (6, .ref (Γ.1 (P (sc + 1) i))), (8, .int (i32 (min (sColX (I sc 4) (I (P (sc + 1) i)) f + I (P (sc + 1) i) 1) 40))), (9, .int (i32 cq))] [] := by
              intro z
              induction z using Nat.strongRecOn with
              | _ z ih_lpi =>
                intro cq M hc hM hz_lpi
                refine fV_iload (pc' := 78) G 7 dX0_cellsInRow_76 rfl rfl ?_
                refine fV_iload (pc' := 80) G 6 dX0_cellsInRow_78 rfl rfl ?_
                refine fV_icmp_ge (tgt := 96) (pc' := 83) G dX0_cellsInRow_80 (by decide) rfl (by omega) (by omega) (fun c204 => ?_) (fun c204 => ?_)
                · have hLn : sBits M (fun j => j < 40 ∧ ∃ w, 0 ≤ w ∧ w < i + 1 ∧ xHas I P sc w row j f) := sBits_c hM (cell_add (by omega) hvis hrow (by omega))
                  refine fV_iinc (lv' := [(5, .int (i32 (i + 1))), (0, .ref (Γ.1 sc)), (1, .int (i32 row)), (2, .int (i32 f)), (3, .long M), (6, .ref (Γ.1 (P (sc + 1) i))), (8, .int (i32 (min (sColX (I sc 4) (I (P (sc + 1) i)) f + I (P (sc + 1) i) 1) 40))), (9, .int (i32 cq))]) (pc' := 99) G 4 dX0_cellsInRow_96 rfl (by decide) rfl rfl ?_
                  refine fV_goto (tgt := 5) G dX0_cellsInRow_99 (by decide) ?_
                  refine fV_lv (lv' := [(0, .ref (Γ.1 sc)), (1, .int (i32 row)), (2, .int (i32 f)), (3, .long M), (5, .int (i32 (i + 1)))]) [1, 2, 3, 4, 0] rfl ?_
                  exact ih_lpo _ (by omega) (i + 1) M (by omega) hLn rfl
                · refine fV_lload_n (pc' := 84) G 3 dX0_cellsInRow_83 rfl rfl rfl ?_
                  refine fV_lconst (v := 1) (pc' := 85) G dX0_cellsInRow_84 rfl rfl ?_
                  refine fV_iload (pc' := 87) G 7 dX0_cellsInRow_85 rfl rfl ?_
                  refine fV_lshl (pc' := 88) G dX0_cellsInRow_87 rfl ?_
                  refine fV_lor (pc' := 89) G dX0_cellsInRow_88 rfl ?_
                  refine fV_lstore_n (lv' := [(3, .long (M ||| (i64 1 <<< ((i32 cq).toInt64 &&& 63)))), (0, .ref (Γ.1 sc)), (1, .int (i32 row)), (2, .int (i32 f)), (5, .int (i32 i)), (6, .ref (Γ.1 (P (sc + 1) i))), (8, .int (i32 (min (sColX (I sc 4) (I (P (sc + 1) i)) f + I (P (sc + 1) i) 1) 40))), (9, .int (i32 cq))]) (pc' := 90) G dX0_cellsInRow_89 rfl (by decide) rfl rfl ?_
                  refine fV_iinc (lv' := [(9, .int (i32 (cq + 1))), (3, .long (M ||| (i64 1 <<< ((i32 cq).toInt64 &&& 63)))), (0, .ref (Γ.1 sc)), (1, .int (i32 row)), (2, .int (i32 f)), (5, .int (i32 i)), (6, .ref (Γ.1 (P (sc + 1) i))), (8, .int (i32 (min (sColX (I sc 4) (I (P (sc + 1) i)) f + I (P (sc + 1) i) 1) 40)))]) (pc' := 93) G 7 dX0_cellsInRow_90 rfl (by decide) rfl rfl ?_
                  refine fV_goto (tgt := 76) G dX0_cellsInRow_93 (by decide) ?_
                  refine fV_lv (lv' := [(0, .ref (Γ.1 sc)), (1, .int (i32 row)), (2, .int (i32 f)), (3, .long (M ||| (i64 1 <<< ((i32 cq).toInt64 &&& 63)))), (5, .int (i32 i)), (6, .ref (Γ.1 (P (sc + 1) i))), (8, .int (i32 (min (sColX (I sc 4) (I (P (sc + 1) i)) f + I (P (sc + 1) i) 1) 40))), (9, .int (i32 (cq + 1)))]) [2, 3, 4, 1, 5, 6, 7, 0] rfl ?_
                  exact ih_lpi _ (by omega) (cq + 1) (M ||| (i64 1 <<< ((i32 cq).toInt64 &&& 63))) (by omega) (sBits_c (sBits_or hM (by omega)) (fun j z1 z2 => ⟨fun z => by rcases z with (z | z) | z; exact Or.inl z; exact Or.inr (by omega); exact Or.inr (by omega), fun z => by rcases z with z | z; exact Or.inl (Or.inl z); exact (by by_cases e : j = cq; exact Or.inr e; exact Or.inl (Or.inr (by omega)))⟩)) rfl
            refine fV_lv (lv' := [(0, .ref (Γ.1 sc)), (1, .int (i32 row)), (2, .int (i32 f)), (3, .long L), (5, .int (i32 i)), (6, .ref (Γ.1 (P (sc + 1) i))), (8, .int (i32 (min ((sColX (I sc 4) (I (P (sc + 1) i)) f) + (I (P (sc + 1) i) 1)) 40))), (9, .int (i32 (max (sColX (I sc 4) (I (P (sc + 1) i)) f) 0)))]) [4, 5, 6, 7, 8, 3, 1, 0] rfl ?_
            exact lpi _ (max (sColX (I sc 4) (I (P (sc + 1) i)) f) 0) L (by omega) (sBits_c hL (fun j z1 z2 => ⟨Or.inl, fun z => z.elim id (fun q => by omega)⟩)) rfl
  refine fV_lv (lv' := [(0, .ref (Γ.1 sc)), (1, .int (i32 row)), (2, .int (i32 f)), (3, .long (i64 0)), (5, .int (i32 0))]) [2, 3, 4, 1, 0] rfl ?_
  exact lpo _ 0 (i64 0) (by omega) (sBits_c sBits_0 (fun j z1 z2 => ⟨fun z => z.elim, fun ⟨_, w, h0, h1, _⟩ => by omega⟩)) rfl
