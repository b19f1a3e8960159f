/-! CONTRACTS 10: the class's private writes (rows laid by wip/whole/gen/con10.py) -/
set_option maxHeartbeats 4000000 in
set_option maxRecDepth 100000 in
theorem mX2_copyFrom (l : Launch) (Γ : fG) {N : Nat} (hN : 214 ≤ N) (I : fM) (P : fN) {k : Nat} (hk : fWd k) {k2 : Nat} (hj : fWd k2) (hkk : k ≠ k2) (hz : I k2 6 = 0 ∨ I k2 6 = 1) : fMet l yX2_copyFrom wsX2_copyFrom rmX2_copyFrom Γ N [.ref (Γ.1 k), .ref (Γ.1 k2)] I P (fE none (fcw I k k2) P) := by
  refine fMet_of (own := RX2) (cc := cX2_copyFrom) (maxL := 2) (ret := none) rfl (by decide +kernel) rfl (Nat.le_of_ble_eq_true rfl) ?_
  intro p e s m args below meth c G
  obtain ⟨hk0, hk1, hk2⟩ := id hk
  have hnk : k < N := by omega
  obtain ⟨hj0, hj1, hj2⟩ := id hj
  have hne : k2 ≠ k := fun z => hkk z.symm
  have hne2 : k2 ≠ k + 1 := fun z => by rw [z, hk2] at hj1; cases hj1
  refine fV_lv (lv' := [(0, .ref (Γ.1 k)), (1, .ref (Γ.1 k2))]) [0, 1] rfl ?_
  refine fV_aload_n (pc' := 1) G 1 dX2_copyFrom_0 rfl rfl rfl ?_
  refine fV_get (K := 2) (v := .ref (Γ.1 (k2 + 1))) (pc' := 4) G kfX2_copyFrom_9 (by omega) hj1 rfl rfl dX2_copyFrom_1 rfl ?_
  refine fV_iconst (pc' := 5) G dX2_copyFrom_4 rfl ?_
  refine fV_aload_n (pc' := 6) G 0 dX2_copyFrom_5 rfl rfl rfl ?_
  refine fV_get (K := 2) (v := .ref (Γ.1 (k + 1))) (pc' := 9) G kfX2_copyFrom_9 hnk hk1 rfl rfl dX2_copyFrom_6 rfl ?_
  refine fV_iconst (pc' := 10) G dX2_copyFrom_9 rfl ?_
  refine fV_bipush (n := 12) (pc' := 12) G dX2_copyFrom_10 rfl rfl ?_
  refine fV_copy (K1 := 5) (n1 := 12) (K2 := 5) (n2 := 12) (pc' := 15) G kcX2_copyFrom_15 ⟨Nat.le_of_ble_eq_true rfl, Nat.le_of_ble_eq_true rfl⟩ (by omega) hj2 (fun _ _ => rfl) (by omega) hk2 (fun _ _ => rfl) (by decide) (by decide) (by decide) dX2_copyFrom_12 rfl (fun I1 eI1 => ?_)
  refine fV_aload_n (pc' := 16) G 0 dX2_copyFrom_15 rfl rfl rfl ?_
  refine fV_aload_n (pc' := 17) G 1 dX2_copyFrom_16 rfl rfl rfl ?_
  refine fV_get (K := 2) (v := .int (i32 (I1 k2 1))) (pc' := 20) G kfX2_copyFrom_21 (by omega) hj1 rfl rfl dX2_copyFrom_17 rfl ?_
  refine fV_top (b := I k2 1) (by rw [eI1, fcpy_k hne2]) ?_
  refine fV_put (K := 2) (jj := 1) (x := I k2 1) (v := .int (i32 (I k2 1))) (ty := .int) (pc' := 23) G kfX2_copyFrom_21 hnk hk1 rfl rfl kp2_1 rfl rfl (Nat.le_of_ble_eq_true rfl) dX2_copyFrom_20 rfl (fun I2 eI2 => ?_)
  refine fV_aload_n (pc' := 24) G 0 dX2_copyFrom_23 rfl rfl rfl ?_
  refine fV_aload_n (pc' := 25) G 1 dX2_copyFrom_24 rfl rfl rfl ?_
  refine fV_get (K := 2) (v := .int (i32 (I2 k2 2))) (pc' := 28) G kfX2_copyFrom_25 (by omega) hj1 rfl rfl dX2_copyFrom_25 rfl ?_
  refine fV_top (b := I k2 2) (by rw [eI2, fup_k hne, eI1, fcpy_k hne2]) ?_
  refine fV_put (K := 2) (jj := 2) (x := I k2 2) (v := .int (i32 (I k2 2))) (ty := .int) (pc' := 31) G kfX2_copyFrom_25 hnk hk1 rfl rfl kp2_2 rfl rfl (Nat.le_of_ble_eq_true rfl) dX2_copyFrom_28 rfl (fun I3 eI3 => ?_)
  refine fV_aload_n (pc' := 32) G 0 dX2_copyFrom_31 rfl rfl rfl ?_
  refine fV_aload_n (pc' := 33) G 1 dX2_copyFrom_32 rfl rfl rfl ?_
  refine fV_get (K := 2) (v := .int (i32 (I3 k2 3))) (pc' := 36) G kfX2_copyFrom_28 (by omega) hj1 rfl rfl dX2_copyFrom_33 rfl ?_
  refine fV_top (b := I k2 3) (by rw [eI3, fup_k hne, eI2, fup_k hne, eI1, fcpy_k hne2]) ?_
  refine fV_put (K := 2) (jj := 3) (x := I k2 3) (v := .int (i32 (I k2 3))) (ty := .int) (pc' := 39) G kfX2_copyFrom_28 hnk hk1 rfl rfl kp2_3 rfl rfl (Nat.le_of_ble_eq_true rfl) dX2_copyFrom_36 rfl (fun I4 eI4 => ?_)
  refine fV_aload_n (pc' := 40) G 0 dX2_copyFrom_39 rfl rfl rfl ?_
  refine fV_aload_n (pc' := 41) G 1 dX2_copyFrom_40 rfl rfl rfl ?_
  refine fV_get (K := 2) (v := .int (i32 (I4 k2 4))) (pc' := 44) G kfX2_copyFrom_31 (by omega) hj1 rfl rfl dX2_copyFrom_41 rfl ?_
  refine fV_top (b := I k2 4) (by rw [eI4, fup_k hne, eI3, fup_k hne, eI2, fup_k hne, eI1, fcpy_k hne2]) ?_
  refine fV_put (K := 2) (jj := 4) (x := I k2 4) (v := .int (i32 (I k2 4))) (ty := .int) (pc' := 47) G kfX2_copyFrom_31 hnk hk1 rfl rfl kp2_4 rfl rfl (Nat.le_of_ble_eq_true rfl) dX2_copyFrom_44 rfl (fun I5 eI5 => ?_)
  refine fV_aload_n (pc' := 48) G 0 dX2_copyFrom_47 rfl rfl rfl ?_
  refine fV_aload_n (pc' := 49) G 1 dX2_copyFrom_48 rfl rfl rfl ?_
  refine fV_get (K := 2) (v := .int (i32 (I5 k2 5))) (pc' := 52) G kfX2_copyFrom_34 (by omega) hj1 rfl rfl dX2_copyFrom_49 rfl ?_
  refine fV_top (b := I k2 5) (by rw [eI5, fup_k hne, eI4, fup_k hne, eI3, fup_k hne, eI2, fup_k hne, eI1, fcpy_k hne2]) ?_
  refine fV_put (K := 2) (jj := 5) (x := I k2 5) (v := .int (i32 (I k2 5))) (ty := .int) (pc' := 55) G kfX2_copyFrom_34 hnk hk1 rfl rfl kp2_5 rfl rfl (Nat.le_of_ble_eq_true rfl) dX2_copyFrom_52 rfl (fun I6 eI6 => ?_)
  refine fV_aload_n (pc' := 56) G 0 dX2_copyFrom_55 rfl rfl rfl ?_
  refine fV_aload_n (pc' := 57) G 1 dX2_copyFrom_56 rfl rfl rfl ?_
  refine fV_get (K := 2) (v := .int (i32 (I6 k2 6))) (pc' := 60) G kfX2_copyFrom_37 (by omega) hj1 rfl rfl dX2_copyFrom_57 rfl ?_
  refine fV_top (b := I k2 6) (by rw [eI6, fup_k hne, eI5, fup_k hne, eI4, fup_k hne, eI3, fup_k hne, eI2, fup_k hne, eI1, fcpy_k hne2]) ?_
  refine fV_put (K := 2) (jj := 6) (x := I k2 6) (v := .int (i32 (I k2 6))) (ty := .boolean) (pc' := 63) G kfX2_copyFrom_37 hnk hk1 rfl rfl kp2_6 (fZ_nar (by omega)) (fZ_fit (by omega)) (Nat.le_of_ble_eq_true rfl) dX2_copyFrom_60 rfl (fun I7 eI7 => ?_)
  refine fV_aload_n (pc' := 64) G 0 dX2_copyFrom_63 rfl rfl rfl ?_
  refine fV_aload_n (pc' := 65) G 1 dX2_copyFrom_64 rfl rfl rfl ?_
  refine fV_get (K := 2) (v := .int (i32 (I7 k2 7))) (pc' := 68) G kfX2_copyFrom_41 (by omega) hj1 rfl rfl dX2_copyFrom_65 rfl ?_
  refine fV_top (b := I k2 7) (by rw [eI7, fup_k hne, eI6, fup_k hne, eI5, fup_k hne, eI4, fup_k hne, eI3, fup_k hne, eI2, fup_k hne, eI1, fcpy_k hne2]) ?_
  refine fV_put (K := 2) (jj := 7) (x := I k2 7) (v := .int (i32 (I k2 7))) (ty := .int) (pc' := 71) G kfX2_copyFrom_41 hnk hk1 rfl rfl kp2_7 rfl rfl (Nat.le_of_ble_eq_true rfl) dX2_copyFrom_68 rfl (fun I8 eI8 => ?_)
  refine fV_aload_n (pc' := 72) G 0 dX2_copyFrom_71 rfl rfl rfl ?_
  refine fV_aload_n (pc' := 73) G 1 dX2_copyFrom_72 rfl rfl rfl ?_
  refine fV_get (K := 2) (v := .int (i32 (I8 k2 8))) (pc' := 76) G kfX2_copyFrom_44 (by omega) hj1 rfl rfl dX2_copyFrom_73 rfl ?_
  refine fV_top (b := I k2 8) (by rw [eI8, fup_k hne, eI7, fup_k hne, eI6, fup_k hne, eI5, fup_k hne, eI4, fup_k hne, eI3, fup_k hne, eI2, fup_k hne, eI1, fcpy_k hne2]) ?_
  refine fV_put (K := 2) (jj := 8) (x := I k2 8) (v := .int (i32 (I k2 8))) (ty := .int) (pc' := 79) G kfX2_copyFrom_44 hnk hk1 rfl rfl kp2_8 rfl rfl (Nat.le_of_ble_eq_true rfl) dX2_copyFrom_76 rfl (fun I9 eI9 => ?_)
  refine fV_vret G dX2_copyFrom_79 ?_
  exact fE_vm (by rw [← fcw_eq]; subst_vars; rfl) rfl
set_option maxHeartbeats 4000000 in
set_option maxRecDepth 100000 in
theorem mX0_copyFrom (l : Launch) (Γ : fG) {N : Nat} (hN : 214 ≤ N) (I : fM) (P : fN) {sc : Nat} (hs : fSc sc) {sc2 : Nat} (hs2_ : fSc sc2) (hnn : sc ≠ sc2) (hp : fPs P sc) (hp2 : fPs P sc2) (hc2 : 0 ≤ I sc2 1 ∧ I sc2 1 ≤ 12) (hz : ∀ w : Int, 0 ≤ w → w < I sc2 1 → I (P (sc2 + 1) w) 6 = 0 ∨ I (P (sc2 + 1) w) 6 = 1) : fMet l yX0_copyFrom wsX0_copyFrom rmX0_copyFrom Γ N [.ref (Γ.1 sc), .ref (Γ.1 sc2)] I P (fun v J P' => v = none ∧ P' = P ∧ vEq I P sc2 J P sc ∧ fOut I J sc) := by
  refine fMet_of (own := RX0) (cc := cX0_copyFrom) (maxL := 3) (ret := none) rfl (by decide +kernel) rfl (Nat.le_of_ble_eq_true rfl) ?_
  intro p e s m args below meth c G
  obtain ⟨hs0, hs1, hs2, hs3, hs4, hs5, hs6⟩ := fSc_k hs
  have hn0 : sc < N := by omega
  have hn1 : sc + 1 < N := by omega
  have hn2 : sc + 2 < N := by omega
  obtain ⟨ht0, ht1, ht2, ht3, ht4, ht5, ht6⟩ := fSc_k hs2_
  have hdd := fSc_dis hs hs2_ hnn
  refine fV_lv (lv' := [(0, .ref (Γ.1 sc)), (1, .ref (Γ.1 sc2))]) [0, 1] rfl ?_
  refine fV_iconst (pc' := 1) G dX0_copyFrom_0 rfl ?_
  refine fV_istore_n (lv' := [(2, .int (i32 0)), (0, .ref (Γ.1 sc)), (1, .ref (Γ.1 sc2))]) (pc' := 2) G dX0_copyFrom_1 rfl (by decide) rfl rfl ?_
  have lp : ∀ (z : Nat) (i : Int) (J : fM), 0 ≤ i ∧ i ≤ I sc2 1 → (∀ w : Int, 0 ≤ w → w < i → wEq I (P (sc2 + 1) w) J (P (sc + 1) w)) → fOut I J sc → ((I sc2 1 - i).toNat) = z → fV p l e rmX0_copyFrom s m args below meth c (MQ below (fQ Γ N (fun v J P' => v = none ∧ P' = P ∧ vEq I P sc2 J P sc ∧ fOut I J sc)) args s 0 0 (fA Γ N)) (fA Γ N) Γ N 3 0 0 J P 2 [(0, .ref (Γ.1 sc)), (1, .ref (Γ.1 sc2)), (2, .int (i32 i))] [] := by
    intro z
    induction z using Nat.strongRecOn with
    | _ z ih_lp =>
      intro i J hi hw ho hz_lp
      refine fV_iload_n (pc' := 3) G 2 dX0_copyFrom_2 rfl rfl rfl ?_
      refine fV_aload_n (pc' := 4) G 1 dX0_copyFrom_3 rfl rfl rfl ?_
      refine fV_get (K := 0) (v := .int (i32 (J sc2 1))) (pc' := 7) G kfX0_copyFrom_33 (by omega) ht1 rfl rfl dX0_copyFrom_4 rfl ?_
      refine fV_top (b := I sc2 1) (by rw [ho sc2 (by omega)]) ?_
      refine fV_icmp_ge (tgt := 31) (pc' := 10) G dX0_copyFrom_7 (by decide) rfl (by omega) (by omega) (fun c101 => ?_) (fun c101 => ?_)
      · refine fV_aload_n (pc' := 32) G 0 dX0_copyFrom_31 rfl rfl rfl ?_
        refine fV_aload_n (pc' := 33) G 1 dX0_copyFrom_32 rfl rfl rfl ?_
        refine fV_get (K := 0) (v := .int (i32 (J sc2 1))) (pc' := 36) G kfX0_copyFrom_33 (by omega) ht1 rfl rfl dX0_copyFrom_33 rfl ?_
        refine fV_top (b := I sc2 1) (by rw [ho sc2 (by omega)]) ?_
        refine fV_put (K := 0) (jj := 1) (x := I sc2 1) (v := .int (i32 (I sc2 1))) (ty := .int) (pc' := 39) G kfX0_copyFrom_33 hn0 hs1 rfl rfl kp0_1 rfl rfl (Nat.le_of_ble_eq_true rfl) dX0_copyFrom_36 rfl (fun I102 eI102 => ?_)
        refine fV_aload_n (pc' := 40) G 1 dX0_copyFrom_39 rfl rfl rfl ?_
        refine fV_get (K := 0) (v := .ref (Γ.1 (sc2 + 2))) (pc' := 43) G kfX0_copyFrom_17 (by omega) ht1 rfl rfl dX0_copyFrom_40 rfl ?_
        refine fV_iconst (pc' := 44) G dX0_copyFrom_43 rfl ?_
        refine fV_aload_n (pc' := 45) G 0 dX0_copyFrom_44 rfl rfl rfl ?_
        refine fV_get (K := 0) (v := .ref (Γ.1 (sc + 2))) (pc' := 48) G kfX0_copyFrom_17 hn0 hs1 rfl rfl dX0_copyFrom_45 rfl ?_
        refine fV_iconst (pc' := 49) G dX0_copyFrom_48 rfl ?_
        refine fV_bipush (n := 10) (pc' := 51) G dX0_copyFrom_49 rfl rfl ?_
        refine fV_copy (K1 := 6) (n1 := 10) (K2 := 6) (n2 := 10) (pc' := 54) G kcX0_copyFrom_40 ⟨Nat.le_of_ble_eq_true rfl, Nat.le_of_ble_eq_true rfl⟩ (by omega) ht3 (fun _ _ => rfl) hn2 hs3 (fun _ _ => rfl) (by decide) (by decide) (by decide) dX0_copyFrom_51 rfl (fun I103 eI103 => ?_)
        refine fV_aload_n (pc' := 55) G 0 dX0_copyFrom_54 rfl rfl rfl ?_
        refine fV_aload_n (pc' := 56) G 1 dX0_copyFrom_55 rfl rfl rfl ?_
        refine fV_get (K := 0) (v := .int (i32 (I103 sc2 3))) (pc' := 59) G kfX0_copyFrom_46 (by omega) ht1 rfl rfl dX0_copyFrom_56 rfl ?_
        refine fV_top (b := I sc2 3) (by rw [eI103, fcpy_k (by omega), eI102, fup_k (by omega), ho sc2 (by omega)]) ?_
        refine fV_put (K := 0) (jj := 3) (x := I sc2 3) (v := .int (i32 (I sc2 3))) (ty := .int) (pc' := 62) G kfX0_copyFrom_46 hn0 hs1 rfl rfl kp0_3 rfl rfl (Nat.le_of_ble_eq_true rfl) dX0_copyFrom_59 rfl (fun I104 eI104 => ?_)
        refine fV_aload_n (pc' := 63) G 0 dX0_copyFrom_62 rfl rfl rfl ?_
        refine fV_aload_n (pc' := 64) G 1 dX0_copyFrom_63 rfl rfl rfl ?_
        refine fV_get (K := 0) (v := .int (i32 (I104 sc2 4))) (pc' := 67) G kfX0_copyFrom_21 (by omega) ht1 rfl rfl dX0_copyFrom_64 rfl ?_
        refine fV_top (b := I sc2 4) (by rw [eI104, fup_k (by omega), eI103, fcpy_k (by omega), eI102, fup_k (by omega), ho sc2 (by omega)]) ?_
        refine fV_put (K := 0) (jj := 4) (x := I sc2 4) (v := .int (i32 (I sc2 4))) (ty := .int) (pc' := 70) G kfX0_copyFrom_21 hn0 hs1 rfl rfl kp0_4 rfl rfl (Nat.le_of_ble_eq_true rfl) dX0_copyFrom_67 rfl (fun I105 eI105 => ?_)
        refine fV_vret G dX0_copyFrom_70 ?_
        refine ⟨rfl, rfl, ?_⟩
        rw [eI105, eI104, eI103, eI102]
        exact cp_all hs2_ hs (Ne.symm hnn) hp hc2 (fun w h0 h1 => hw w h0 (by omega)) ho
      · refine fV_aload_n (pc' := 11) G 0 dX0_copyFrom_10 rfl rfl rfl ?_
        refine fV_get (K := 0) (v := .ref (Γ.1 (sc + 1))) (pc' := 14) G kfX0_copyFrom_11 hn0 hs1 rfl rfl dX0_copyFrom_11 rfl ?_
        refine fV_iload_n (pc' := 15) G 2 dX0_copyFrom_14 rfl rfl rfl ?_
        refine fV_aald (K := 11) (n := 12) (t := 1) (pc' := 16) G hn1 hs2 (fun _ _ => rfl) rfl (by decide) (by omega) dX0_copyFrom_15 rfl ?_
        refine fV_aload_n (pc' := 17) G 1 dX0_copyFrom_16 rfl rfl rfl ?_
        refine fV_get (K := 0) (v := .ref (Γ.1 (sc2 + 1))) (pc' := 20) G kfX0_copyFrom_11 (by omega) ht1 rfl rfl dX0_copyFrom_17 rfl ?_
        refine fV_iload_n (pc' := 21) G 2 dX0_copyFrom_20 rfl rfl rfl ?_
        refine fV_aald (K := 11) (n := 12) (t := 1) (pc' := 22) G (by omega) ht2 (fun _ _ => rfl) rfl (by decide) (by omega) dX0_copyFrom_21 rfl ?_
        have hz9 := hz i (by omega) (by omega)
        have hdz := fSc_dis hs hs2_ hnn
        obtain ⟨ja, hja, eja⟩ := hp.1 i (by omega) (by omega)
        obtain ⟨jb, hjb, ejb⟩ := hp2.1 i (by omega) (by omega)
        obtain ⟨I102, eI102⟩ : ∃ J9 : fM, J9 = fcw J (P (sc + 1) i) (P (sc2 + 1) i) := ⟨_, rfl⟩
        refine fV_callVf (I' := I102) (st' := []) (n := 1) (k := (P (sc + 1) i)) (K := 2) (As := [.ref (Γ.1 (P (sc2 + 1) i))]) (rest := []) (pc' := 25) G (by rw [eI102]; exact mX2_copyFrom l Γ hN J P (fPs_w hs hp (by omega) (by omega)) (fPs_w hs2_ hp2 (by omega) (by omega)) (by omega) (by rw [ho _ (by omega)]; exact hz9)) kcX0_copyFrom_36 (by have := (fPs_w hs hp (w := i) (by omega) (by omega)).1; omega) (fPs_w hs hp (by omega) (by omega)).2.1 rfl rfl rfl (Nat.le_of_ble_eq_true rfl) (Nat.zero_le _) (Nat.zero_le _) dX0_copyFrom_22 rfl rfl ?_
        refine fV_iinc (lv' := [(2, .int (i32 (i + 1))), (0, .ref (Γ.1 sc)), (1, .ref (Γ.1 sc2))]) (pc' := 28) G 2 dX0_copyFrom_25 rfl (by decide) rfl rfl ?_
        refine fV_goto (tgt := 2) G dX0_copyFrom_28 (by decide) ?_
        refine fV_lv (lv' := [(0, .ref (Γ.1 sc)), (1, .ref (Γ.1 sc2)), (2, .int (i32 (i + 1)))]) [1, 2, 0] rfl ?_
        exact ih_lp _ (by omega) (i + 1) I102 (by omega) (by rw [eI102]; exact cp_step hs2_ hs (Ne.symm hnn) hp2 hp (by omega) (by omega) hw ho) (by rw [eI102]; exact cp_out hs hp (by omega) (by omega) ho) rfl
  refine fV_lv (lv' := [(0, .ref (Γ.1 sc)), (1, .ref (Γ.1 sc2)), (2, .int (i32 0))]) [1, 2, 0] rfl ?_
  exact lp _ 0 I (by omega) (fun w h0 h1 => by omega) (fun _ _ => rfl) rfl
