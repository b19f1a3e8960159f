/-! CONTRACTS 23: load of the reference (rows laid by wip/whole/gen/con23.py) -/
set_option maxHeartbeats 4000000 in
set_option maxRecDepth 100000 in
theorem mX4_load (l : Launch) (Γ : fG) {N : Nat} (hN : 220 ≤ N) (I : fM) (P : fN) (ho : mOk I) (hT : tOk (I 218) (I 214 6)) : fMet l yX4_load wsX4_load rmX4_load Γ N [.ref (Γ.1 214)] I P (fun v J Q => Q = P ∧ v = some (.int (i32 (pLoad (I 218) (I 214 6) 23 (I 215) 0 0).1)) ∧ (((pLoad (I 218) (I 214 6) 23 (I 215) 0 0).1 < 0 ∧ rdZ I J) ∨ (0 ≤ (pLoad (I 218) (I 214 6) 23 (I 215) 0 0).1 ∧ (∀ b : Int, 0 ≤ b → b < 241 → J 215 b = (pLoad (I 218) (I 214 6) 23 (I 215) 0 0).2 b) ∧ J 214 6 = 0 ∧ (∀ a : Nat, a ≠ 214 → a ≠ 215 → a ≠ 216 → a ≠ 219 → J a = mAct I a) ∧ ∀ b : Int, b ≠ 6 → (b < 7 ∨ 11 < b) → J 214 b = mAct I 214 b))) := by
  refine fMet_of (own := RX4) (cc := cX4_load) (maxL := 2) (ret := (some .int)) rfl (by decide +kernel) rfl (Nat.le_of_ble_eq_true rfl) ?_
  intro p e s m args below meth c G
  obtain ⟨hm, hwm, hth, hsm, hle⟩ := id ho
  obtain ⟨hm1, hm2, hm3, hm4⟩ := id hm
  have hok0 : mOkr (I 215) := mOkr_of hm hwm
  refine fV_lv (lv' := [(0, .ref (Γ.1 214))]) [0] rfl ?_
  refine fV_aload_n (pc' := 1) G 0 dX4_load_0 rfl rfl rfl ?_
  refine fV_iconst (pc' := 2) G dX4_load_1 rfl ?_
  refine fV_put (K := 4) (jj := 0) (x := 0) (v := .int (i32 0)) (ty := .int) (pc' := 5) G kfX4_load_26 (by omega) rfl rfl rfl kp4_0 rfl rfl (Nat.le_of_ble_eq_true rfl) dX4_load_2 rfl (fun I1 eI1 => ?_)
  refine fV_mem (I' := I) (P' := P) (by rw [eI1]; exact fup_id hth) rfl ?_
  refine fV_aload_n (pc' := 6) G 0 dX4_load_5 rfl rfl rfl ?_
  obtain ⟨I2, eI2⟩ : ∃ J9 : fM, J9 = fcpy I 215 0 216 0 241 := ⟨_, rfl⟩
  refine fV_callVf (I' := I2) (st' := []) (n := 0) (k := 214) (K := 4) (As := []) (rest := []) (pc' := 9) G (by rw [eI2]; exact mX4_hold l Γ hN I P) kcX4_load_193 (by omega) rfl rfl rfl rfl (Nat.le_of_ble_eq_true rfl) (Nat.zero_le _) (Nat.zero_le _) dX4_load_6 rfl rfl ?_
  have a_I2 : ∀ a : Nat, a ≠ 214 → a ≠ 216 → I2 a = I a := fun a _ a2 => by rw [eI2]; exact fcpy_ne a2
  have b_I2 : ∀ b : Int, (b < 7 ∨ 11 < b) → I2 214 b = I 214 b := fun b _ => by rw [eI2, fcpy_k (by decide)]
  have c_I2 : ∀ b : Int, 0 ≤ b → b < 241 → I2 216 b = I 215 b := fun b b0 b1 => by rw [eI2, fcpy_at (by omega)]; congr 1; omega
  refine fV_aload_n (pc' := 10) G 0 dX4_load_9 rfl rfl rfl ?_
  refine fV_iconst (pc' := 11) G dX4_load_10 rfl ?_
  refine fV_put (K := 4) (jj := 7) (x := 0) (v := .int (i32 0)) (ty := .int) (pc' := 14) G kfX4_load_127 (by omega) rfl rfl rfl kp4_7 rfl rfl (Nat.le_of_ble_eq_true rfl) dX4_load_11 rfl (fun I3 eI3 => ?_)
  have a_I3 : ∀ a : Nat, a ≠ 214 → a ≠ 216 → I3 a = I a := fun a a1 a2 => by rw [eI3, fup_ne a1]; exact a_I2 a a1 a2
  have b_I3 : ∀ b : Int, (b < 7 ∨ 11 < b) → I3 214 b = I 214 b := fun b hb => by rw [eI3, fup_j (by omega)]; exact b_I2 b hb
  have c_I3 : ∀ b : Int, 0 ≤ b → b < 241 → I3 216 b = I 215 b := fun b b0 b1 => by rw [eI3, fup_k (by decide)]; exact c_I2 b b0 b1
  have n_I3 : I3 214 7 = 0 := by rw [eI3, fup_s]
  refine fV_aload_n (pc' := 15) G 0 dX4_load_14 rfl rfl rfl ?_
  refine fV_iconst (pc' := 16) G dX4_load_15 rfl ?_
  refine fV_put (K := 4) (jj := 11) (x := 0) (v := .int (i32 0)) (ty := .boolean) (pc' := 19) G kfX4_load_158 (by omega) rfl rfl rfl kp4_11 rfl rfl (Nat.le_of_ble_eq_true rfl) dX4_load_16 rfl (fun I4 eI4 => ?_)
  have a_I4 : ∀ a : Nat, a ≠ 214 → a ≠ 216 → I4 a = I a := fun a a1 a2 => by rw [eI4, fup_ne a1]; exact a_I3 a a1 a2
  have b_I4 : ∀ b : Int, (b < 7 ∨ 11 < b) → I4 214 b = I 214 b := fun b hb => by rw [eI4, fup_j (by omega)]; exact b_I3 b hb
  have c_I4 : ∀ b : Int, 0 ≤ b → b < 241 → I4 216 b = I 215 b := fun b b0 b1 => by rw [eI4, fup_k (by decide)]; exact c_I3 b b0 b1
  have n_I4 : I4 214 7 = 0 := by rw [eI4, fup_j (by decide)]; exact n_I3
  have w_I4 : I4 214 11 = 0 := by rw [eI4, fup_s]
  refine fV_iconst (pc' := 20) G dX4_load_19 rfl ?_
  refine fV_istore_n (lv' := [(1, .int (i32 0)), (0, .ref (Γ.1 214))]) (pc' := 21) G dX4_load_20 rfl (by decide) rfl rfl ?_
  refine fV_aload_n (pc' := 22) G 1 dX4_load_21 rfl rfl rfl ?_
  obtain ⟨I5, eI5⟩ : ∃ J9 : fM, J9 = rdS I4 := ⟨_, rfl⟩
  refine fV_callVf (I' := I5) (st' := []) (n := 0) (k := 214) (K := 4) (As := []) (rest := []) (pc' := 25) G (by rw [eI5]; exact mX4_read l Γ hN I4 P (by rw [b_I4 6 (by decide)]; exact hle) (by rw [a_I4 218 (by decide) (by decide), b_I4 6 (by decide)]; exact hT) (by rw [n_I4, b_I4 6 (by decide)]; omega)) kcX4_load_162 (by omega) rfl rfl rfl rfl (Nat.le_of_ble_eq_true rfl) (Nat.zero_le _) (Nat.zero_le _) dX4_load_22 rfl rfl ?_
  have ra : ∀ a : Nat, a ≠ 214 → a ≠ 216 → I5 a = I a := fun a a1 a2 => by rw [eI5, (rdO_s _).1 a a1]; exact a_I4 a a1 a2
  have rb : ∀ b : Int, (b < 7 ∨ 11 < b) → I5 214 b = I 214 b := fun b hb => by rw [eI5, (rdO_s _).2 b hb]; exact b_I4 b hb
  have rc : ∀ b : Int, 0 ≤ b → b < 241 → I5 216 b = I 215 b := fun b b0 b1 => by rw [eI5, (rdO_s _).1 216 (by decide)]; exact c_I4 b b0 b1
  have rt : rdT I5 (I 218) (I 214 6) 0 := by rw [eI5]; exact rdT_s (a_I4 218 (by decide) (by decide)) (b_I4 6 (by decide)) n_I4
  have rw_ : I5 214 11 = 0 := by rw [eI5, rdS_11]; exact w_I4
  have lp : ∀ (z : Nat) (i9 : Int) (t9 : Int → Int) (f9 : Int) (p9 : Int) (J : fM), 0 ≤ i9 ∧ i9 ≤ 23 → J 215 = t9 → mOkr t9 → (∀ b, (b < 0 ∨ 241 ≤ b) → t9 b = I 215 b) → (∀ b : Int, 0 ≤ b → b < 241 → J 216 b = I 215 b) → (∀ a : Nat, a ≠ 214 → a ≠ 215 → a ≠ 216 → J a = I a) → (∀ b : Int, (b < 7 ∨ 11 < b) → J 214 b = I 214 b) → ((J 214 11 = 0 ∧ rdT J (I 218) (I 214 6) f9 ∧ (0 ≤ f9 ∧ f9 ≤ I 214 6) ∧ i9 ≤ t9 0 + t9 1 ∧ pLoad (I 218) (I 214 6) 23 (I 215) 0 0 = pLoad (I 218) (I 214 6) (23 - i9).toNat t9 f9 i9) ∨ (J 214 11 = 1 ∧ J 214 8 = p9 ∧ (0 ≤ p9 ∧ p9 ≤ I 214 6) ∧ pLoad (I 218) (I 214 6) 23 (I 215) 0 0 = (-1000 - p9, t9))) → ((24 - i9).toNat) = z → fV p l e rmX4_load s m args below meth c (MQ below (fQ Γ N (fun v J Q => Q = P ∧ v = some (.int (i32 (pLoad (I 218) (I 214 6) 23 (I 215) 0 0).1)) ∧ (((pLoad (I 218) (I 214 6) 23 (I 215) 0 0).1 < 0 ∧ rdZ I J) ∨ (0 ≤ (pLoad (I 218) (I 214 6) 23 (I 215) 0 0).1 ∧ (∀ b : Int, 0 ≤ b → b < 241 → J 215 b = (pLoad (I 218) (I 214 6) 23 (I 215) 0 0).2 b) ∧ J 214 6 = 0 ∧ (∀ a : Nat, a ≠ 214 → a ≠ 215 → a ≠ 216 → a ≠ 219 → J a = mAct I a) ∧ ∀ b : Int, b ≠ 6 → (b < 7 ∨ 11 < b) → J 214 b = mAct I 214 b)))) args s 0 0 (fA Γ N)) (fA Γ N) Γ N 2 0 0 J P 25 [(0, .ref (Γ.1 214)), (1, .int (i32 i9))] [] := by
    intro z
    induction z using Nat.strongRecOn with
    | _ z ih_lp =>
      intro i9 t9 f9 p9 J hi hJ5 hv9 hout hJ6 hJo hJf hst hz_lp
      have h11 : J 214 11 = 0 ∨ J 214 11 = 1 := by rcases hst with z | z; exact Or.inl z.1; exact Or.inr z.1
      have hb0 := hv9.1.1
      have hb1 := hv9.1.2.1
      refine fV_aload_n (pc' := 26) G 0 dX4_load_25 rfl rfl rfl ?_
      refine fV_get (K := 4) (v := .int (i32 (J 214 11))) (pc' := 29) G kfX4_load_158 (by omega) rfl rfl rfl dX4_load_26 rfl ?_
      refine fV_if_ne (tgt := 50) (pc' := 32) G dX4_load_29 (by decide) rfl (by omega) (fun c106 => ?_) (fun c106 => ?_)
      · have hbad := hst.resolve_left (fun z => by have := z.1; omega)
        obtain ⟨k11, k8, kp, kR⟩ := hbad
        refine fV_aload_n (pc' := 51) G 0 dX4_load_50 rfl rfl rfl ?_
        obtain ⟨I107, eI107⟩ : ∃ J9 : fM, J9 = fxch J 241 := ⟨_, rfl⟩
        refine fV_callVf (I' := I107) (st' := []) (n := 0) (k := 214) (K := 4) (As := []) (rest := []) (pc' := 54) G (by rw [eI107]; exact mX4_exchange l Γ hN J P) kcX4_load_199 (by omega) rfl rfl rfl rfl (Nat.le_of_ble_eq_true rfl) (Nat.zero_le _) (Nat.zero_le _) dX4_load_51 rfl rfl ?_
        have zx : rdZ I I107 := by rw [eI107]; exact rdZ_x hJ6 (fun b hb => by rw [hJ5]; exact hout b hb) hJo hJf
        have f_I107 : ∀ b : Int, I107 214 b = J 214 b := fun b => by rw [eI107, fxch_a (by decide) (by decide)]
        refine fV_aload_n (pc' := 55) G 0 dX4_load_54 rfl rfl rfl ?_
        refine fV_get (K := 4) (v := .int (i32 (I107 214 11))) (pc' := 58) G kfX4_load_158 (by omega) rfl rfl rfl dX4_load_55 rfl ?_
        refine fV_top (b := J 214 11) (by rw [f_I107]) ?_
        refine fV_if_eq (tgt := 70) (pc' := 61) G dX4_load_58 (by decide) rfl (by omega) (fun c108 => ?_) (fun c108 => ?_)
        · exact absurd c108 (by omega)
        · refine fV_sipush (n := -1000) (pc' := 64) G dX4_load_61 rfl rfl ?_
          refine fV_aload_n (pc' := 65) G 0 dX4_load_64 rfl rfl rfl ?_
          refine fV_get (K := 4) (v := .int (i32 (I107 214 8))) (pc' := 68) G kfX4_load_134 (by omega) rfl rfl rfl dX4_load_65 rfl ?_
          refine fV_top (b := p9) (by rw [f_I107, k8]) ?_
          refine fV_isub (pc' := 69) G dX4_load_68 rfl ?_
          refine fV_iret G dX4_load_69 ?_
          exact ⟨rfl, by rw [kR], Or.inl ⟨by rw [kR]; exact (by omega : -1000 - p9 < 0), zx⟩⟩
      · have hok := hst.resolve_right (fun z => by have := z.1; omega)
        obtain ⟨k11, kt, kf, ki, kR⟩ := hok
        have kb := rdK_b (I 218) (I 214 6) f9
        refine fV_aload_n (pc' := 33) G 0 dX4_load_32 rfl rfl rfl ?_
        refine fV_get (K := 4) (v := .int (i32 (J 214 9))) (pc' := 36) G kfX4_load_145 (by omega) rfl rfl rfl dX4_load_33 rfl ?_
        refine fV_top (b := rdK (I 218) (I 214 6) f9) (by rw [kt.2.2.2.2.1]) ?_
        refine fV_iconst (pc' := 37) G dX4_load_36 rfl ?_
        refine fV_icmp_eq (tgt := 50) (pc' := 40) G dX4_load_37 (by decide) rfl (by omega) (by decide) (fun c107 => ?_) (fun c107 => ?_)
        · have hk0 : tK (I 218) (I 214 6) f9 = 0 := rdK_4.mp (by omega)
          have hRR : pLoad (I 218) (I 214 6) 23 (I 215) 0 0 = (i9, t9) := by rw [kR, pLoad_s (by omega), if_pos hk0]
          refine fV_aload_n (pc' := 51) G 0 dX4_load_50 rfl rfl rfl ?_
          obtain ⟨I108, eI108⟩ : ∃ J9 : fM, J9 = fxch J 241 := ⟨_, rfl⟩
          refine fV_callVf (I' := I108) (st' := []) (n := 0) (k := 214) (K := 4) (As := []) (rest := []) (pc' := 54) G (by rw [eI108]; exact mX4_exchange l Γ hN J P) kcX4_load_199 (by omega) rfl rfl rfl rfl (Nat.le_of_ble_eq_true rfl) (Nat.zero_le _) (Nat.zero_le _) dX4_load_51 rfl rfl ?_
          have zx : rdZ I I108 := by rw [eI108]; exact rdZ_x hJ6 (fun b hb => by rw [hJ5]; exact hout b hb) hJo hJf
          have f_I108 : ∀ b : Int, I108 214 b = J 214 b := fun b => by rw [eI108, fxch_a (by decide) (by decide)]
          refine fV_aload_n (pc' := 55) G 0 dX4_load_54 rfl rfl rfl ?_
          refine fV_get (K := 4) (v := .int (i32 (I108 214 11))) (pc' := 58) G kfX4_load_158 (by omega) rfl rfl rfl dX4_load_55 rfl ?_
          refine fV_top (b := J 214 11) (by rw [f_I108]) ?_
          refine fV_if_eq (tgt := 70) (pc' := 61) G dX4_load_58 (by decide) rfl (by omega) (fun c109 => ?_) (fun c109 => ?_)
          · refine fV_aload_n (pc' := 71) G 0 dX4_load_70 rfl rfl rfl ?_
            obtain ⟨I110, eI110⟩ : ∃ J9 : fM, J9 = mAct I108 := ⟨_, rfl⟩
            refine fV_callVf (I' := I110) (st' := []) (n := 0) (k := 214) (K := 4) (As := []) (rest := []) (pc' := 74) G (by rw [eI110]; exact mX4_act l Γ hN I108 P (by rw [zx.2 4 (by decide)]; exact hsm)) kcX4_load_96 (by omega) rfl rfl rfl rfl (Nat.le_of_ble_eq_true rfl) (Nat.zero_le _) (Nat.zero_le _) dX4_load_71 rfl rfl ?_
            refine fV_aload_n (pc' := 75) G 0 dX4_load_74 rfl rfl rfl ?_
            obtain ⟨I111, eI111⟩ : ∃ J9 : fM, J9 = fxch I110 241 := ⟨_, rfl⟩
            refine fV_callVf (I' := I111) (st' := []) (n := 0) (k := 214) (K := 4) (As := []) (rest := []) (pc' := 78) G (by rw [eI111]; exact mX4_exchange l Γ hN I110 P) kcX4_load_199 (by omega) rfl rfl rfl rfl (Nat.le_of_ble_eq_true rfl) (Nat.zero_le _) (Nat.zero_le _) dX4_load_75 rfl rfl ?_
            refine fV_aload_n (pc' := 79) G 0 dX4_load_78 rfl rfl rfl ?_
            refine fV_iconst (pc' := 80) G dX4_load_79 rfl ?_
            refine fV_put (K := 4) (jj := 6) (x := 0) (v := .int (i32 0)) (ty := .int) (pc' := 83) G kfX4_load_124 (by omega) rfl rfl rfl kp4_6 rfl rfl (Nat.le_of_ble_eq_true rfl) dX4_load_80 rfl (fun I112 eI112 => ?_)
            refine fV_iload_n (pc' := 84) G 1 dX4_load_83 rfl rfl rfl ?_
            refine fV_iret G dX4_load_84 ?_
            have za : rdZ (mAct I) I110 := by rw [eI110]; exact rdZ_act zx
            exact ⟨rfl, by rw [hRR], Or.inr ⟨by rw [hRR]; exact (by omega : (0 : Int) ≤ i9), fun b b0 b1 => by rw [hRR, eI112, fup_k (by decide), eI111]; unfold fxch; rw [if_pos ⟨rfl, b0, b1⟩, eI110, mAct_o (by decide) (by decide), eI108]; unfold fxch; rw [if_neg (by omega), if_pos ⟨rfl, b0, b1⟩, hJ5], by rw [eI112, fup_s], fun a a1 a2 a3 a4 => by rw [eI112, fup_ne a1, eI111, fxch_a a2 a3]; exact za.1 a a1 a3 a4, fun b b6 hb => by rw [eI112, fup_j b6, eI111, fxch_a (by decide) (by decide)]; exact za.2 b hb⟩⟩
          · exact absurd c109 (by omega)
        · have hk0 : tK (I 218) (I 214 6) f9 ≠ 0 := fun z => by have := rdK_4.mpr z; omega
          refine fV_aload_n (pc' := 41) G 0 dX4_load_40 rfl rfl rfl ?_
          refine fV_callV (n := 0) (k := 214) (K := 4) (As := []) (rest := []) (pc' := 44) G (mX4_readItem l Γ hN J P hle hT kf kt k11 (by rw [hJ5]; exact hv9)) kcX4_load_196 (by omega) rfl rfl rfl rfl (Nat.le_of_ble_eq_true rfl) (Nat.zero_le _) (Nat.zero_le _) dX4_load_41 rfl (fun v108 I109 P110 h111 => ?_)
          obtain ⟨h111v, hrd, eP110⟩ := h111
          refine fV_st (st' := []) (by rw [h111v]; rfl) ?_
          refine fV_mem (I' := I109) (P' := P) rfl eP110 ?_
          rw [hJ5] at hrd
          obtain ⟨t2, f2, p2, hK5, hv2, hout2, hKo, hKf, hst3⟩ := rdI_use kf hv9 (by omega) hk0 kR hJ5 hrd
          have hst2 : ((I109 214 11 = 0 ∧ rdT I109 (I 218) (I 214 6) f2 ∧ (0 ≤ f2 ∧ f2 ≤ I 214 6) ∧ i9 + 1 ≤ t2 0 + t2 1 ∧ pLoad (I 218) (I 214 6) 23 (I 215) 0 0 = pLoad (I 218) (I 214 6) (23 - (i9 + 1)).toNat t2 f2 (i9 + 1)) ∨ (I109 214 11 = 1 ∧ I109 214 8 = p2 ∧ (0 ≤ p2 ∧ p2 ≤ I 214 6) ∧ pLoad (I 218) (I 214 6) 23 (I 215) 0 0 = (-1000 - p2, t2))) := by rcases hst3 with ⟨z1, z2, z3, z4, z5⟩ | z; exact Or.inl ⟨z1, z2, z3, by omega, z5⟩; exact Or.inr z
          refine fV_iinc (lv' := [(1, .int (i32 (i9 + 1))), (0, .ref (Γ.1 214))]) (pc' := 47) G 1 dX4_load_44 rfl (by decide) rfl rfl ?_
          refine fV_goto (tgt := 25) G dX4_load_47 (by decide) ?_
          refine fV_lv (lv' := [(0, .ref (Γ.1 214)), (1, .int (i32 (i9 + 1)))]) [1, 0] rfl ?_
          exact ih_lp _ (by omega) (i9 + 1) t2 f2 p2 I109 (by omega) hK5 hv2 (fun b hb => (hout2 b hb).trans (hout b hb)) (fun b b0 b1 => by rw [hKo 216 (by decide) (by decide)]; exact hJ6 b b0 b1) (fun a a1 a2 a3 => by rw [hKo a a1 a2]; exact hJo a a1 a2 a3) (fun b hb => by rw [hKf b hb]; exact hJf b hb) hst2 rfl
  refine fV_lv (lv' := [(0, .ref (Γ.1 214)), (1, .int (i32 0))]) [1, 0] rfl ?_
  exact lp _ 0 (I 215) 0 0 I5 (by omega) (ra 215 (by decide) (by decide)) hok0 (fun _ _ => rfl) rc (fun a a1 _ a2 => ra a a1 a2) rb (Or.inl ⟨rw_, rt, ⟨by decide, hle.1⟩, by omega, rfl⟩) rfl
