/-! CONTRACTS 18: the constants' members, the class's tokens (rows laid by wip/whole/gen/con18.py) -/
set_option maxHeartbeats 4000000 in
set_option maxRecDepth 100000 in
theorem mJ0_coder_7d493 (l : Launch) (Γ : fG) {N : Nat} (hN : 214 ≤ N) (I : fM) (P : fN) (i : Nat) (hi : i < 6) : fMet l yJ0_coder_7d493 wsJ0_coder_7d493 rmJ0_coder_7d493 Γ N [.ref (Γ.2.2.2 (1 + i))] I P (fE (some (.int (i32 0))) I P) := by
  refine fMet_of (own := RJ0) (cc := cJ0_coder_7d493) (maxL := 1) (ret := (some .byte)) rfl (by decide +kernel) rfl (Nat.le_of_ble_eq_true rfl) ?_
  intro p e s m args below meth c G
  refine fV_lv (lv' := [(0, .ref (Γ.2.2.2 (1 + i)))]) [0] rfl ?_
  refine fV_getCS (pc' := 3) G (by decide +kernel) dJ0_coder_7d493_0 rfl ?_
  refine fV_if_eq (tgt := 13) (pc' := 6) G dJ0_coder_7d493_3 (by decide) rfl (by omega) (fun c1 => ?_) (fun c1 => ?_)
  · refine fV_iconst (pc' := 14) G dJ0_coder_7d493_13 rfl ?_
    refine fV_nret (ty := .byte) G rfl (by decide) dJ0_coder_7d493_14 ?_
    exact absurd c1 (by decide)
  · refine fV_aload_n (pc' := 7) G 0 dJ0_coder_7d493_6 rfl rfl rfl ?_
    refine fV_getCo (i := i) (pc' := 10) G hi (by decide +kernel) dJ0_coder_7d493_7 rfl ?_
    refine fV_goto (tgt := 14) G dJ0_coder_7d493_10 (by decide) ?_
    refine fV_nret (ty := .byte) G rfl (by decide) dJ0_coder_7d493_14 ?_
    exact ⟨rfl, rfl, rfl⟩
set_option maxHeartbeats 4000000 in
set_option maxRecDepth 100000 in
theorem mJ0_isLatin1_aae02 (l : Launch) (Γ : fG) {N : Nat} (hN : 214 ≤ N) (I : fM) (P : fN) (i : Nat) (hi : i < 6) : fMet l yJ0_isLatin1_aae02 wsJ0_isLatin1_aae02 rmJ0_isLatin1_aae02 Γ N [.ref (Γ.2.2.2 (1 + i))] I P (fE (some (.int (i32 (fB true)))) I P) := by
  refine fMet_of (own := RJ0) (cc := cJ0_isLatin1_aae02) (maxL := 1) (ret := (some .boolean)) rfl (by decide +kernel) rfl (Nat.le_of_ble_eq_true rfl) ?_
  intro p e s m args below meth c G
  refine fV_lv (lv' := [(0, .ref (Γ.2.2.2 (1 + i)))]) [0] rfl ?_
  refine fV_getCS (pc' := 3) G (by decide +kernel) dJ0_isLatin1_aae02_0 rfl ?_
  refine fV_if_eq (tgt := 17) (pc' := 6) G dJ0_isLatin1_aae02_3 (by decide) rfl (by omega) (fun c1 => ?_) (fun c1 => ?_)
  · refine fV_iconst (pc' := 18) G dJ0_isLatin1_aae02_17 rfl ?_
    refine fV_zret (b := false) G dJ0_isLatin1_aae02_18 ?_
    first | exact absurd c1 (by decide) | exact absurd c2 (by decide) | exact fE_b rfl
  · refine fV_aload_n (pc' := 7) G 0 dJ0_isLatin1_aae02_6 rfl rfl rfl ?_
    refine fV_getCo (i := i) (pc' := 10) G hi (by decide +kernel) dJ0_isLatin1_aae02_7 rfl ?_
    refine fV_if_ne (tgt := 17) (pc' := 13) G dJ0_isLatin1_aae02_10 (by decide) rfl (by omega) (fun c2 => ?_) (fun c2 => ?_)
    · refine fV_iconst (pc' := 18) G dJ0_isLatin1_aae02_17 rfl ?_
      refine fV_zret (b := false) G dJ0_isLatin1_aae02_18 ?_
      first | exact absurd c1 (by decide) | exact absurd c2 (by decide) | exact fE_b rfl
    · refine fV_iconst (pc' := 14) G dJ0_isLatin1_aae02_13 rfl ?_
      refine fV_goto (tgt := 18) G dJ0_isLatin1_aae02_14 (by decide) ?_
      refine fV_zret (b := true) G dJ0_isLatin1_aae02_18 ?_
      first | exact absurd c1 (by decide) | exact absurd c2 (by decide) | exact fE_b rfl
set_option maxHeartbeats 4000000 in
set_option maxRecDepth 100000 in
theorem mJ0_length_8abf5 (l : Launch) (Γ : fG) {N : Nat} (hN : 214 ≤ N) (I : fM) (P : fN) (i : Nat) (hi : i < 6) : fMet l yJ0_length_8abf5 wsJ0_length_8abf5 rmJ0_length_8abf5 Γ N [.ref (Γ.2.2.2 (1 + i))] I P (fE (some (.int (i32 ((fLen.getD i 0 : Nat) : Int)))) I P) := by
  refine fMet_of (own := RJ0) (cc := cJ0_length_8abf5) (maxL := 1) (ret := (some .int)) rfl (by decide +kernel) rfl (Nat.le_of_ble_eq_true rfl) ?_
  intro p e s m args below meth c G
  have hlb := fLen_b i hi
  refine fV_lv (lv' := [(0, .ref (Γ.2.2.2 (1 + i)))]) [0] rfl ?_
  refine fV_aload_n (pc' := 1) G 0 dJ0_length_8abf5_0 rfl rfl rfl ?_
  refine fV_getVa (i := i) (pc' := 4) G hi (by decide +kernel) dJ0_length_8abf5_1 rfl ?_
  refine fV_lenB (i := i) (pc' := 5) G hi dJ0_length_8abf5_4 rfl ?_
  refine fV_aload_n (pc' := 6) G 0 dJ0_length_8abf5_5 rfl rfl rfl ?_
  refine fV_callKf (i := i) (n := 0) (As := []) (rest := [.int (i32 ((fLen.getD i 0 : Nat) : Int))]) (pc' := 9) (st' := [.int (i32 0), .int (i32 ((fLen.getD i 0 : Nat) : Int))]) G hi (mJ0_coder_7d493 l Γ hN I P i hi) kcJ0len_335 rfl rfl (Nat.le_of_ble_eq_true rfl) (Nat.zero_le _) (Nat.zero_le _) dJ0_length_8abf5_6 rfl rfl ?_
  refine fV_ishr0 (pc' := 10) G (by omega) dJ0_length_8abf5_9 rfl ?_
  refine fV_iret G dJ0_length_8abf5_10 ?_
  exact ⟨rfl, rfl, rfl⟩
set_option maxHeartbeats 4000000 in
set_option maxRecDepth 100000 in
theorem mJ3_checkIndex_8e157 (l : Launch) (Γ : fG) {N : Nat} (hN : 214 ≤ N) (I : fM) (P : fN) (a b : Int) (vf : Value) (hvf : vf = .null ∨ ∃ t, vf = .ref t) (hab : 0 ≤ a ∧ a < b ∧ b ≤ 1000) : fMet l yJ3_checkIndex_8e157 wsJ3_checkIndex_8e157 rmJ3_checkIndex_8e157 Γ N [.int (i32 a), .int (i32 b), vf] I P (fE (some (.int (i32 a))) I P) := by
  have hcat : (lg_sl [.int (i32 a), .int (i32 b), vf]).length ≤ 3 := by rcases hvf with rfl | ⟨t, rfl⟩ <;> exact Nat.le_of_ble_eq_true rfl
  refine fMet_of (own := RJ3) (cc := cJ3_checkIndex_8e157) (maxL := 3) (ret := (some .int)) rfl (by decide +kernel) rfl hcat ?_
  intro p e s m args below meth c G
  refine fV_lv (lv' := [(0, .int (i32 a)), (1, .int (i32 b))]) [0, 1] rfl ?_
  refine fV_iload_n (pc' := 1) G 0 dJ3_checkIndex_8e157_0 rfl rfl rfl ?_
  refine fV_if_lt (tgt := 9) (pc' := 4) G dJ3_checkIndex_8e157_1 (by decide) rfl (by omega) (fun c1 => ?_) (fun c1 => ?_)
  · exact absurd c1 (by omega)
  · refine fV_iload_n (pc' := 5) G 0 dJ3_checkIndex_8e157_4 rfl rfl rfl ?_
    refine fV_iload_n (pc' := 6) G 1 dJ3_checkIndex_8e157_5 rfl rfl rfl ?_
    refine fV_icmp_lt (tgt := 16) (pc' := 9) G dJ3_checkIndex_8e157_6 (by decide) rfl (by omega) (by omega) (fun c2 => ?_) (fun c2 => ?_)
    · refine fV_iload_n (pc' := 17) G 0 dJ3_checkIndex_8e157_16 rfl rfl rfl ?_
      refine fV_iret G dJ3_checkIndex_8e157_17 ?_
      exact ⟨rfl, rfl, rfl⟩
    · exact absurd c2 (by omega)
set_option maxHeartbeats 4000000 in
set_option maxRecDepth 100000 in
theorem mJ0_checkIndex_df160 (l : Launch) (Γ : fG) {N : Nat} (hN : 214 ≤ N) (I : fM) (P : fN) (a b : Int) (hab : 0 ≤ a ∧ a < b ∧ b ≤ 1000) : fMet l yJ0_checkIndex_df160 wsJ0_checkIndex_df160 rmJ0_checkIndex_df160 Γ N [.int (i32 a), .int (i32 b)] I P (fE none I P) := by
  refine fMet_of (own := RJ0) (cc := cJ0_checkIndex_df160) (maxL := 2) (ret := none) rfl (by decide +kernel) rfl (Nat.le_of_ble_eq_true rfl) ?_
  intro p e s m args below meth c G
  refine fV_lv (lv' := [(0, .int (i32 a)), (1, .int (i32 b))]) [0, 1] rfl ?_
  refine fV_iload_n (pc' := 1) G 0 dJ0_checkIndex_df160_0 rfl rfl rfl ?_
  refine fV_iload_n (pc' := 2) G 1 dJ0_checkIndex_df160_1 rfl rfl rfl ?_
  refine fV_getSI (pc' := 5) G (by decide +kernel) dJ0_checkIndex_df160_2 rfl (fun vf hvf => ?_)
  refine fV_callFf (n := 3) (As := [.int (i32 a), .int (i32 b), vf]) (rest := []) (pc' := 8) (st' := [.int (i32 a)]) G (mJ3_checkIndex_8e157 l Γ hN I P a b vf hvf (by omega)) kcJ0chk_1059 rfl rfl (Nat.le_of_ble_eq_true rfl) (Nat.zero_le _) (Nat.zero_le _) dJ0_checkIndex_df160_5 rfl rfl ?_
  refine fV_pop (pc' := 9) G dJ0_checkIndex_df160_8 rfl rfl ?_
  refine fV_vret G dJ0_checkIndex_df160_9 ?_
  exact fE_vm rfl rfl
set_option maxHeartbeats 4000000 in
set_option maxRecDepth 100000 in
theorem mJ1_charAt_3b067 (l : Launch) (Γ : fG) {N : Nat} (hN : 214 ≤ N) (I : fM) (P : fN) (i : Nat) (hi : i < 6) (j : Int) (hj : 0 ≤ j ∧ j < ((fLen.getD i 0 : Nat) : Int)) : fMet l yJ1_charAt_3b067 wsJ1_charAt_3b067 rmJ1_charAt_3b067 Γ N [.ref (Γ.2.2.2 (7 + i)), .int (i32 j)] I P (fE (some (.int (i32 (fChr i j.toNat)))) I P) := by
  refine fMet_of (own := RJ1) (cc := cJ1_charAt_3b067) (maxL := 2) (ret := (some .char)) rfl (by decide +kernel) rfl (Nat.le_of_ble_eq_true rfl) ?_
  intro p e s m args below meth c G
  have hlb := fLen_b i hi
  have hcb := fChr_all i hi j.toNat (by omega)
  refine fV_lv (lv' := [(0, .ref (Γ.2.2.2 (7 + i))), (1, .int (i32 j))]) [0, 1] rfl ?_
  refine fV_iload_n (pc' := 1) G 1 dJ1_charAt_3b067_0 rfl rfl rfl ?_
  refine fV_aload_n (pc' := 2) G 0 dJ1_charAt_3b067_1 rfl rfl rfl ?_
  refine fV_lenB (i := i) (pc' := 3) G hi dJ1_charAt_3b067_2 rfl ?_
  refine fV_callFf (n := 2) (As := [.int (i32 j), .int (i32 ((fLen.getD i 0 : Nat) : Int))]) (rest := []) (pc' := 6) (st' := []) G (mJ0_checkIndex_df160 l Γ hN I P j ((fLen.getD i 0 : Nat) : Int) (by omega)) kcJ1cha_9 rfl rfl (Nat.le_of_ble_eq_true rfl) (Nat.zero_le _) (Nat.zero_le _) dJ1_charAt_3b067_3 rfl rfl ?_
  refine fV_aload_n (pc' := 7) G 0 dJ1_charAt_3b067_6 rfl rfl rfl ?_
  refine fV_iload_n (pc' := 8) G 1 dJ1_charAt_3b067_7 rfl rfl rfl ?_
  refine fV_ldB (i := i) (pc' := 9) G hi hj dJ1_charAt_3b067_8 rfl ?_
  refine fV_sipush (n := 255) (pc' := 12) G dJ1_charAt_3b067_9 rfl rfl ?_
  refine fV_and255 (pc' := 13) G (by omega) dJ1_charAt_3b067_12 rfl ?_
  refine fV_i2c (pc' := 14) G (by omega) dJ1_charAt_3b067_13 rfl ?_
  refine fV_nret (ty := .char) G rfl (nar_char (by omega)) dJ1_charAt_3b067_14 ?_
  exact ⟨rfl, rfl, rfl⟩
set_option maxHeartbeats 4000000 in
set_option maxRecDepth 100000 in
theorem mJ0_charAt_5068e (l : Launch) (Γ : fG) {N : Nat} (hN : 214 ≤ N) (I : fM) (P : fN) (i : Nat) (hi : i < 6) (j : Int) (hj : 0 ≤ j ∧ j < ((fLen.getD i 0 : Nat) : Int)) : fMet l yJ0_charAt_5068e wsJ0_charAt_5068e rmJ0_charAt_5068e Γ N [.ref (Γ.2.2.2 (1 + i)), .int (i32 j)] I P (fE (some (.int (i32 (fChr i j.toNat)))) I P) := by
  refine fMet_of (own := RJ0) (cc := cJ0_charAt_5068e) (maxL := 2) (ret := (some .char)) rfl (by decide +kernel) rfl (Nat.le_of_ble_eq_true rfl) ?_
  intro p e s m args below meth c G
  have hlb := fLen_b i hi
  have hcb := fChr_all i hi j.toNat (by omega)
  refine fV_lv (lv' := [(0, .ref (Γ.2.2.2 (1 + i))), (1, .int (i32 j))]) [0, 1] rfl ?_
  refine fV_aload_n (pc' := 1) G 0 dJ0_charAt_5068e_0 rfl rfl rfl ?_
  refine fV_callKf (i := i) (n := 0) (As := []) (rest := []) (pc' := 4) (st' := [.int (i32 (fB true))]) G hi (mJ0_isLatin1_aae02 l Γ hN I P i hi) kcJ0cha_492 rfl rfl (Nat.le_of_ble_eq_true rfl) (Nat.zero_le _) (Nat.zero_le _) dJ0_charAt_5068e_1 rfl rfl ?_
  refine fV_ifeq_b (tgt := 16) (pc' := 7) G dJ0_charAt_5068e_4 (by decide) rfl (fun c1 => ?_) (fun c1 => ?_)
  · exact absurd c1 (by decide)
  · refine fV_aload_n (pc' := 8) G 0 dJ0_charAt_5068e_7 rfl rfl rfl ?_
    refine fV_getVa (i := i) (pc' := 11) G hi (by decide +kernel) dJ0_charAt_5068e_8 rfl ?_
    refine fV_iload_n (pc' := 12) G 1 dJ0_charAt_5068e_11 rfl rfl rfl ?_
    refine fV_callFf (n := 2) (As := [.ref (Γ.2.2.2 (7 + i)), .int (i32 j)]) (rest := []) (pc' := 15) (st' := [.int (i32 (fChr i j.toNat))]) G (mJ1_charAt_3b067 l Γ hN I P i hi j hj) kcJ0cha_495 rfl rfl (Nat.le_of_ble_eq_true rfl) (Nat.zero_le _) (Nat.zero_le _) dJ0_charAt_5068e_12 rfl rfl ?_
    refine fV_nret (ty := .char) G rfl (nar_char (by omega)) dJ0_charAt_5068e_15 ?_
    exact ⟨rfl, rfl, rfl⟩
set_option maxHeartbeats 4000000 in
set_option maxRecDepth 100000 in
theorem mX1_kindAt (l : Launch) (Γ : fG) {N : Nat} (hN : 214 ≤ N) (I : fM) (P : fN) (hn : 0 ≤ I 212 1 ∧ I 212 1 ≤ 160) (hT : tOk (I 213) (I 212 1)) (i : Int) (hi : 0 ≤ i ∧ i ≤ 160) : fMet l yX1_kindAt wsX1_kindAt rmX1_kindAt Γ N [.ref (Γ.1 212), .int (i32 i)] I P (fE (some (.int (i32 (tKd (I 213) (I 212 1) i)))) I P) := by
  refine fMet_of (own := RX1) (cc := cX1_kindAt) (maxL := 3) (ret := (some .int)) rfl (by decide +kernel) rfl (Nat.le_of_ble_eq_true rfl) ?_
  intro p e s m args below meth c G
  have hTi := hT i hi.1
  refine fV_lv (lv' := [(0, .ref (Γ.1 212)), (1, .int (i32 i))]) [0, 1] rfl ?_
  refine fV_iload_n (pc' := 1) G 1 dX1_kindAt_0 rfl rfl rfl ?_
  refine fV_aload_n (pc' := 2) G 0 dX1_kindAt_1 rfl rfl rfl ?_
  refine fV_get (K := 1) (v := .int (i32 (I 212 1))) (pc' := 5) G kfX1_kindAt_93 (by omega) rfl rfl rfl dX1_kindAt_2 rfl ?_
  refine fV_icmp_lt (tgt := 10) (pc' := 8) G dX1_kindAt_5 (by decide) rfl (by omega) (by omega) (fun c1 => ?_) (fun c1 => ?_)
  · refine fV_aload_n (pc' := 11) G 0 dX1_kindAt_10 rfl rfl rfl ?_
    refine fV_get (K := 1) (v := .ref (Γ.1 213)) (pc' := 14) G kfX1_kindAt_9 (by omega) rfl rfl rfl dX1_kindAt_11 rfl ?_
    refine fV_iload_n (pc' := 15) G 1 dX1_kindAt_14 rfl rfl rfl ?_
    refine fV_iald (K := 7) (n := 160) (pc' := 16) G (by omega) rfl (fun _ _ => rfl) (by decide) (by omega) dX1_kindAt_15 rfl ?_
    refine fV_istore_n (lv' := [(2, .int (i32 (I 213 i))), (0, .ref (Γ.1 212)), (1, .int (i32 i))]) (pc' := 17) G dX1_kindAt_16 rfl (by decide) rfl rfl ?_
    refine fV_iload_n (pc' := 18) G 0 dX1_kindAt_17 rfl rfl rfl ?_
    refine fV_bipush (n := 97) (pc' := 20) G dX1_kindAt_18 rfl rfl ?_
    refine fV_icmp_lt (tgt := 31) (pc' := 23) G dX1_kindAt_20 (by decide) rfl (by omega) (by decide) (fun c2 => ?_) (fun c2 => ?_)
    · refine fV_iload_n (pc' := 32) G 0 dX1_kindAt_31 rfl rfl rfl ?_
      refine fV_bipush (n := 48) (pc' := 34) G dX1_kindAt_32 rfl rfl ?_
      refine fV_icmp_lt (tgt := 45) (pc' := 37) G dX1_kindAt_34 (by decide) rfl (by omega) (by decide) (fun c3 => ?_) (fun c3 => ?_)
      · refine fV_iload_n (pc' := 46) G 0 dX1_kindAt_45 rfl rfl rfl ?_
        refine fV_bipush (n := 59) (pc' := 48) G dX1_kindAt_46 rfl rfl ?_
        refine fV_icmp_ne (tgt := 55) (pc' := 51) G dX1_kindAt_48 (by decide) rfl (by omega) (by decide) (fun c4 => ?_) (fun c4 => ?_)
        · refine fV_iconst (pc' := 56) G dX1_kindAt_55 rfl ?_
          refine fV_iret G dX1_kindAt_56 ?_
          exact fE_i (by unfold tKd; (repeat' split) <;> omega)
        · refine fV_iconst (pc' := 52) G dX1_kindAt_51 rfl ?_
          refine fV_goto (tgt := 56) G dX1_kindAt_52 (by decide) ?_
          refine fV_iret G dX1_kindAt_56 ?_
          exact fE_i (by unfold tKd; (repeat' split) <;> omega)
      · refine fV_iload_n (pc' := 38) G 0 dX1_kindAt_37 rfl rfl rfl ?_
        refine fV_bipush (n := 57) (pc' := 40) G dX1_kindAt_38 rfl rfl ?_
        refine fV_icmp_gt (tgt := 45) (pc' := 43) G dX1_kindAt_40 (by decide) rfl (by omega) (by decide) (fun c4 => ?_) (fun c4 => ?_)
        · refine fV_iload_n (pc' := 46) G 0 dX1_kindAt_45 rfl rfl rfl ?_
          refine fV_bipush (n := 59) (pc' := 48) G dX1_kindAt_46 rfl rfl ?_
          refine fV_icmp_ne (tgt := 55) (pc' := 51) G dX1_kindAt_48 (by decide) rfl (by omega) (by decide) (fun c5 => ?_) (fun c5 => ?_)
          · refine fV_iconst (pc' := 56) G dX1_kindAt_55 rfl ?_
            refine fV_iret G dX1_kindAt_56 ?_
            exact fE_i (by unfold tKd; (repeat' split) <;> omega)
          · refine fV_iconst (pc' := 52) G dX1_kindAt_51 rfl ?_
            refine fV_goto (tgt := 56) G dX1_kindAt_52 (by decide) ?_
            refine fV_iret G dX1_kindAt_56 ?_
            exact fE_i (by unfold tKd; (repeat' split) <;> omega)
        · refine fV_iconst (pc' := 44) G dX1_kindAt_43 rfl ?_
          refine fV_iret G dX1_kindAt_44 ?_
          exact fE_i (by unfold tKd; (repeat' split) <;> omega)
    · refine fV_iload_n (pc' := 24) G 0 dX1_kindAt_23 rfl rfl rfl ?_
      refine fV_bipush (n := 122) (pc' := 26) G dX1_kindAt_24 rfl rfl ?_
      refine fV_icmp_gt (tgt := 31) (pc' := 29) G dX1_kindAt_26 (by decide) rfl (by omega) (by decide) (fun c3 => ?_) (fun c3 => ?_)
      · refine fV_iload_n (pc' := 32) G 0 dX1_kindAt_31 rfl rfl rfl ?_
        refine fV_bipush (n := 48) (pc' := 34) G dX1_kindAt_32 rfl rfl ?_
        refine fV_icmp_lt (tgt := 45) (pc' := 37) G dX1_kindAt_34 (by decide) rfl (by omega) (by decide) (fun c4 => ?_) (fun c4 => ?_)
        · refine fV_iload_n (pc' := 46) G 0 dX1_kindAt_45 rfl rfl rfl ?_
          refine fV_bipush (n := 59) (pc' := 48) G dX1_kindAt_46 rfl rfl ?_
          refine fV_icmp_ne (tgt := 55) (pc' := 51) G dX1_kindAt_48 (by decide) rfl (by omega) (by decide) (fun c5 => ?_) (fun c5 => ?_)
          · refine fV_iconst (pc' := 56) G dX1_kindAt_55 rfl ?_
            refine fV_iret G dX1_kindAt_56 ?_
            exact fE_i (by unfold tKd; (repeat' split) <;> omega)
          · refine fV_iconst (pc' := 52) G dX1_kindAt_51 rfl ?_
            refine fV_goto (tgt := 56) G dX1_kindAt_52 (by decide) ?_
            refine fV_iret G dX1_kindAt_56 ?_
            exact fE_i (by unfold tKd; (repeat' split) <;> omega)
        · refine fV_iload_n (pc' := 38) G 0 dX1_kindAt_37 rfl rfl rfl ?_
          refine fV_bipush (n := 57) (pc' := 40) G dX1_kindAt_38 rfl rfl ?_
          refine fV_icmp_gt (tgt := 45) (pc' := 43) G dX1_kindAt_40 (by decide) rfl (by omega) (by decide) (fun c5 => ?_) (fun c5 => ?_)
          · refine fV_iload_n (pc' := 46) G 0 dX1_kindAt_45 rfl rfl rfl ?_
            refine fV_bipush (n := 59) (pc' := 48) G dX1_kindAt_46 rfl rfl ?_
            refine fV_icmp_ne (tgt := 55) (pc' := 51) G dX1_kindAt_48 (by decide) rfl (by omega) (by decide) (fun c6 => ?_) (fun c6 => ?_)
            · refine fV_iconst (pc' := 56) G dX1_kindAt_55 rfl ?_
              refine fV_iret G dX1_kindAt_56 ?_
              exact fE_i (by unfold tKd; (repeat' split) <;> omega)
            · refine fV_iconst (pc' := 52) G dX1_kindAt_51 rfl ?_
              refine fV_goto (tgt := 56) G dX1_kindAt_52 (by decide) ?_
              refine fV_iret G dX1_kindAt_56 ?_
              exact fE_i (by unfold tKd; (repeat' split) <;> omega)
          · refine fV_iconst (pc' := 44) G dX1_kindAt_43 rfl ?_
            refine fV_iret G dX1_kindAt_44 ?_
            exact fE_i (by unfold tKd; (repeat' split) <;> omega)
      · refine fV_iconst (pc' := 30) G dX1_kindAt_29 rfl ?_
        refine fV_iret G dX1_kindAt_30 ?_
        exact fE_i (by unfold tKd; (repeat' split) <;> omega)
  · refine fV_iconst (pc' := 9) G dX1_kindAt_8 rfl ?_
    refine fV_iret G dX1_kindAt_9 ?_
    exact fE_i (by unfold tKd; (repeat' split) <;> omega)
set_option maxHeartbeats 4000000 in
set_option maxRecDepth 100000 in
theorem mX1_isName (l : Launch) (Γ : fG) {N : Nat} (hN : 214 ≤ N) (I : fM) (P : fN) (hn : 0 ≤ I 212 1 ∧ I 212 1 ≤ 160) (hT : tOk (I 213) (I 212 1)) (hk : 0 ≤ I 212 2 ∧ I 212 2 ≤ 4) (hse : 0 ≤ I 212 3 ∧ I 212 3 ≤ I 212 4 ∧ I 212 4 ≤ I 212 1) (i : Nat) (hi : i < 6) : fMet l yX1_isName wsX1_isName rmX1_isName Γ N [.ref (Γ.1 212), .ref (Γ.2.2.2 (1 + i))] I P (fE (some (.int (i32 (fB (@decide (I 212 2 = 1 ∧ I 212 4 - I 212 3 = ((fLen.getD i 0 : Nat) : Int) ∧ ∀ j : Nat, j < fLen.getD i 0 → I 213 (I 212 3 + j) = fChr i j) (Classical.propDecidable _)))))) I P) := by
  refine fMet_of (own := RX1) (cc := cX1_isName) (maxL := 3) (ret := (some .boolean)) rfl (by decide +kernel) rfl (Nat.le_of_ble_eq_true rfl) ?_
  intro p e s m args below meth c G
  have hlb := fLen_b i hi
  refine fV_lv (lv' := [(0, .ref (Γ.1 212)), (1, .ref (Γ.2.2.2 (1 + i)))]) [0, 1] rfl ?_
  refine fV_aload_n (pc' := 1) G 0 dX1_isName_0 rfl rfl rfl ?_
  refine fV_get (K := 1) (v := .int (i32 (I 212 2))) (pc' := 4) G kfX1_isName_22 (by omega) rfl rfl rfl dX1_isName_1 rfl ?_
  refine fV_iconst (pc' := 5) G dX1_isName_4 rfl ?_
  refine fV_icmp_ne (tgt := 24) (pc' := 8) G dX1_isName_5 (by decide) rfl (by omega) (by decide) (fun c1 => ?_) (fun c1 => ?_)
  · refine fV_iconst (pc' := 25) G dX1_isName_24 rfl ?_
    refine fV_zret (b := false) G dX1_isName_25 ?_
    exact fE_b (@decide_eq_false _ (Classical.propDecidable _) (fun z => by have z1 := z.1; have z2 := z.2.1; omega)).symm
  · refine fV_aload_n (pc' := 9) G 0 dX1_isName_8 rfl rfl rfl ?_
    refine fV_get (K := 1) (v := .int (i32 (I 212 4))) (pc' := 12) G kfX1_isName_15 (by omega) rfl rfl rfl dX1_isName_9 rfl ?_
    refine fV_aload_n (pc' := 13) G 0 dX1_isName_12 rfl rfl rfl ?_
    refine fV_get (K := 1) (v := .int (i32 (I 212 3))) (pc' := 16) G kfX1_isName_29 (by omega) rfl rfl rfl dX1_isName_13 rfl ?_
    refine fV_isub (pc' := 17) G dX1_isName_16 rfl ?_
    refine fV_aload_n (pc' := 18) G 1 dX1_isName_17 rfl rfl rfl ?_
    refine fV_callKf (i := i) (n := 0) (As := []) (rest := [.int (i32 ((I 212 4) - (I 212 3)))]) (pc' := 21) (st' := [.int (i32 ((fLen.getD i 0 : Nat) : Int)), .int (i32 ((I 212 4) - (I 212 3)))]) G hi (mJ0_length_8abf5 l Γ hN I P i hi) kcX1isN_100 rfl rfl (Nat.le_of_ble_eq_true rfl) (Nat.zero_le _) (Nat.zero_le _) dX1_isName_18 rfl rfl ?_
    refine fV_icmp_eq (tgt := 26) (pc' := 24) G dX1_isName_21 (by decide) rfl (by omega) (by omega) (fun c2 => ?_) (fun c2 => ?_)
    · refine fV_iconst (pc' := 27) G dX1_isName_26 rfl ?_
      refine fV_istore_n (lv' := [(2, .int (i32 0)), (0, .ref (Γ.1 212)), (1, .ref (Γ.2.2.2 (1 + i)))]) (pc' := 28) G dX1_isName_27 rfl (by decide) rfl rfl ?_
      have lp : ∀ (z : Nat) (j : Int), 0 ≤ j ∧ j ≤ ((fLen.getD i 0 : Nat) : Int) → (∀ q : Nat, (q : Int) < j → I 213 (I 212 3 + q) = fChr i q) → ((((fLen.getD i 0 : Nat) : Int) - j).toNat) = z → fV p l e rmX1_isName s m args below meth c (MQ below (fQ Γ N (fE (some (.int (i32 (fB (@decide (I 212 2 = 1 ∧ I 212 4 - I 212 3 = ((fLen.getD i 0 : Nat) : Int) ∧ ∀ j : Nat, j < fLen.getD i 0 → I 213 (I 212 3 + j) = fChr i j) (Classical.propDecidable _)))))) I P)) args s 0 0 (fA Γ N)) (fA Γ N) Γ N 3 0 0 I P 28 [(0, .ref (Γ.1 212)), (1, .ref (Γ.2.2.2 (1 + i))), (2, .int (i32 j))] [] := by
        intro z
        induction z using Nat.strongRecOn with
        | _ z ih_lp =>
          intro j hj hall hz_lp
          refine fV_iload_n (pc' := 29) G 2 dX1_isName_28 rfl rfl rfl ?_
          refine fV_aload_n (pc' := 30) G 1 dX1_isName_29 rfl rfl rfl ?_
          refine fV_callKf (i := i) (n := 0) (As := []) (rest := [.int (i32 j)]) (pc' := 33) (st' := [.int (i32 ((fLen.getD i 0 : Nat) : Int)), .int (i32 j)]) G hi (mJ0_length_8abf5 l Γ hN I P i hi) kcX1isN_100 rfl rfl (Nat.le_of_ble_eq_true rfl) (Nat.zero_le _) (Nat.zero_le _) dX1_isName_30 rfl rfl ?_
          refine fV_icmp_ge (tgt := 63) (pc' := 36) G dX1_isName_33 (by decide) rfl (by omega) (by omega) (fun c103 => ?_) (fun c103 => ?_)
          · refine fV_iconst (pc' := 64) G dX1_isName_63 rfl ?_
            refine fV_zret (b := true) G dX1_isName_64 ?_
            exact fE_b (@decide_eq_true _ (Classical.propDecidable _) ⟨by omega, by omega, fun q hq => hall q (by omega)⟩).symm
          · refine fV_aload_n (pc' := 37) G 0 dX1_isName_36 rfl rfl rfl ?_
            refine fV_get (K := 1) (v := .ref (Γ.1 213)) (pc' := 40) G kfX1_isName_9 (by omega) rfl rfl rfl dX1_isName_37 rfl ?_
            refine fV_aload_n (pc' := 41) G 0 dX1_isName_40 rfl rfl rfl ?_
            refine fV_get (K := 1) (v := .int (i32 (I 212 3))) (pc' := 44) G kfX1_isName_29 (by omega) rfl rfl rfl dX1_isName_41 rfl ?_
            refine fV_iload_n (pc' := 45) G 2 dX1_isName_44 rfl rfl rfl ?_
            refine fV_iadd (pc' := 46) G dX1_isName_45 rfl ?_
            have hTi := hT (I 212 3 + j) (by omega) (by omega)
            have hcb := fChr_all i hi j.toNat (by omega)
            refine fV_iald (K := 7) (n := 160) (pc' := 47) G (by omega) rfl (fun _ _ => rfl) (by decide) (by omega) dX1_isName_46 rfl ?_
            refine fV_aload_n (pc' := 48) G 1 dX1_isName_47 rfl rfl rfl ?_
            refine fV_iload_n (pc' := 49) G 2 dX1_isName_48 rfl rfl rfl ?_
            refine fV_callKf (i := i) (n := 1) (As := [.int (i32 j)]) (rest := [.int (i32 (I 213 ((I 212 3) + j)))]) (pc' := 52) (st' := [.int (i32 (fChr i j.toNat)), .int (i32 (I 213 ((I 212 3) + j)))]) G hi (mJ0_charAt_5068e l Γ hN I P i hi j (by omega)) kcX1isN_104 rfl rfl (Nat.le_of_ble_eq_true rfl) (Nat.zero_le _) (Nat.zero_le _) dX1_isName_49 rfl rfl ?_
            refine fV_icmp_eq (tgt := 57) (pc' := 55) G dX1_isName_52 (by decide) rfl (by omega) (by omega) (fun c104 => ?_) (fun c104 => ?_)
            · have hch := c104
              refine fV_iinc (lv' := [(2, .int (i32 (j + 1))), (0, .ref (Γ.1 212)), (1, .ref (Γ.2.2.2 (1 + i)))]) (pc' := 60) G 2 dX1_isName_57 rfl (by decide) rfl rfl ?_
              refine fV_goto (tgt := 28) G dX1_isName_60 (by decide) ?_
              refine fV_lv (lv' := [(0, .ref (Γ.1 212)), (1, .ref (Γ.2.2.2 (1 + i))), (2, .int (i32 (j + 1)))]) [1, 2, 0] rfl ?_
              exact ih_lp _ (by omega) (j + 1) (by omega) (fun q hq => by by_cases z : (q : Int) = j; (have hq9 : j.toNat = q := (by omega); rw [hq9] at hch; rw [z]; exact hch); exact hall q (by omega)) rfl
            · have hne := c104
              refine fV_iconst (pc' := 56) G dX1_isName_55 rfl ?_
              refine fV_zret (b := false) G dX1_isName_56 ?_
              exact fE_b (@decide_eq_false _ (Classical.propDecidable _) (fun z => hne (by have z9 := z.2.2 j.toNat (by omega); rw [show ((j.toNat : Nat) : Int) = j by omega] at z9; exact z9))).symm
      refine fV_lv (lv' := [(0, .ref (Γ.1 212)), (1, .ref (Γ.2.2.2 (1 + i))), (2, .int (i32 0))]) [1, 2, 0] rfl ?_
      exact lp _ 0 (by omega) (fun q hq => by omega) rfl
    · refine fV_iconst (pc' := 25) G dX1_isName_24 rfl ?_
      refine fV_zret (b := false) G dX1_isName_25 ?_
      exact fE_b (@decide_eq_false _ (Classical.propDecidable _) (fun z => by have z1 := z.1; have z2 := z.2.1; omega)).symm
set_option maxHeartbeats 4000000 in
set_option maxRecDepth 100000 in
theorem mX1_numberOf (l : Launch) (Γ : fG) {N : Nat} (hN : 214 ≤ N) (I : fM) (P : fN) (hn : 0 ≤ I 212 1 ∧ I 212 1 ≤ 160) (hT : tOk (I 213) (I 212 1)) (hk : 0 ≤ I 212 2 ∧ I 212 2 ≤ 4) (hse : 0 ≤ I 212 3 ∧ I 212 3 ≤ I 212 4 ∧ I 212 4 ≤ I 212 1) (hdig : ∀ j : Int, I 212 2 = 2 → I 212 3 ≤ j → j < I 212 4 → 48 ≤ I 213 j ∧ I 213 j ≤ 57) (hlt : I 212 2 = 2 → I 212 3 < I 212 4) : fMet l yX1_numberOf wsX1_numberOf rmX1_numberOf Γ N [.ref (Γ.1 212)] I P (fE (some (.int (i32 (if I 212 2 = 2 ∧ ¬ (I 213 (I 212 3) = 48 ∧ 1 < I 212 4 - I 212 3) then tClip (dval (I 213) (I 212 3) (I 212 4 - I 212 3).toNat) else -1)))) I P) := by
  refine fMet_of (own := RX1) (cc := cX1_numberOf) (maxL := 3) (ret := (some .int)) rfl (by decide +kernel) rfl (Nat.le_of_ble_eq_true rfl) ?_
  intro p e s m args below meth c G
  refine fV_lv (lv' := [(0, .ref (Γ.1 212))]) [0] rfl ?_
  refine fV_aload_n (pc' := 1) G 0 dX1_numberOf_0 rfl rfl rfl ?_
  refine fV_get (K := 1) (v := .int (i32 (I 212 2))) (pc' := 4) G kfX1_numberOf_22 (by omega) rfl rfl rfl dX1_numberOf_1 rfl ?_
  refine fV_iconst (pc' := 5) G dX1_numberOf_4 rfl ?_
  refine fV_icmp_ne (tgt := 35) (pc' := 8) G dX1_numberOf_5 (by decide) rfl (by omega) (by decide) (fun c1 => ?_) (fun c1 => ?_)
  · refine fV_iconst (pc' := 36) G dX1_numberOf_35 rfl ?_
    refine fV_iret G dX1_numberOf_36 ?_
    exact fE_i (by rw [if_neg (by omega)])
  · refine fV_aload_n (pc' := 9) G 0 dX1_numberOf_8 rfl rfl rfl ?_
    refine fV_get (K := 1) (v := .ref (Γ.1 213)) (pc' := 12) G kfX1_numberOf_9 (by omega) rfl rfl rfl dX1_numberOf_9 rfl ?_
    refine fV_aload_n (pc' := 13) G 0 dX1_numberOf_12 rfl rfl rfl ?_
    refine fV_get (K := 1) (v := .int (i32 (I 212 3))) (pc' := 16) G kfX1_numberOf_29 (by omega) rfl rfl rfl dX1_numberOf_13 rfl ?_
    refine fV_iald (K := 7) (n := 160) (pc' := 17) G (by omega) rfl (fun _ _ => rfl) (by decide) (by omega) dX1_numberOf_16 rfl ?_
    have hd0 := hdig (I 212 3) (by omega) (by omega) (by omega)
    refine fV_bipush (n := 48) (pc' := 19) G dX1_numberOf_17 rfl rfl ?_
    refine fV_icmp_ne (tgt := 37) (pc' := 22) G dX1_numberOf_19 (by decide) rfl (by omega) (by decide) (fun c2 => ?_) (fun c2 => ?_)
    · refine fV_iconst (pc' := 38) G dX1_numberOf_37 rfl ?_
      refine fV_istore_n (lv' := [(1, .int (i32 0)), (0, .ref (Γ.1 212))]) (pc' := 39) G dX1_numberOf_38 rfl (by decide) rfl rfl ?_
      refine fV_aload_n (pc' := 40) G 1 dX1_numberOf_39 rfl rfl rfl ?_
      refine fV_get (K := 1) (v := .int (i32 (I 212 3))) (pc' := 43) G kfX1_numberOf_29 (by omega) rfl rfl rfl dX1_numberOf_40 rfl ?_
      refine fV_istore_n (lv' := [(2, .int (i32 (I 212 3))), (1, .int (i32 0)), (0, .ref (Γ.1 212))]) (pc' := 44) G dX1_numberOf_43 rfl (by decide) rfl rfl ?_
      have lp : ∀ (z : Nat) (j : Int) (v : Int), I 212 3 ≤ j ∧ j ≤ I 212 4 → v = dval (I 213) (I 212 3) (j - I 212 3).toNat → (0 ≤ v ∧ v ≤ 4000) → ((I 212 4 - j).toNat) = z → fV p l e rmX1_numberOf s m args below meth c (MQ below (fQ Γ N (fE (some (.int (i32 (if I 212 2 = 2 ∧ ¬ (I 213 (I 212 3) = 48 ∧ 1 < I 212 4 - I 212 3) then tClip (dval (I 213) (I 212 3) (I 212 4 - I 212 3).toNat) else -1)))) I P)) args s 0 0 (fA Γ N)) (fA Γ N) Γ N 3 0 0 I P 44 [(0, .ref (Γ.1 212)), (1, .int (i32 v)), (2, .int (i32 j))] [] := by
        intro z
        induction z using Nat.strongRecOn with
        | _ z ih_lp =>
          intro j v hj hv hvb hz_lp
          refine fV_iload_n (pc' := 45) G 2 dX1_numberOf_44 rfl rfl rfl ?_
          refine fV_aload_n (pc' := 46) G 0 dX1_numberOf_45 rfl rfl rfl ?_
          refine fV_get (K := 1) (v := .int (i32 (I 212 4))) (pc' := 49) G kfX1_numberOf_15 (by omega) rfl rfl rfl dX1_numberOf_46 rfl ?_
          refine fV_icmp_ge (tgt := 82) (pc' := 52) G dX1_numberOf_49 (by decide) rfl (by omega) (by omega) (fun c103 => ?_) (fun c103 => ?_)
          · refine fV_iload_n (pc' := 83) G 1 dX1_numberOf_82 rfl rfl rfl ?_
            refine fV_iret G dX1_numberOf_83 ?_
            exact fE_i (by rw [if_pos ⟨by omega, by omega⟩, hv, show j = I 212 4 by omega]; unfold tClip; rw [if_pos (by rw [hv, show j = I 212 4 by omega] at hvb; exact hvb.2)])
          · refine fV_iload_n (pc' := 53) G 1 dX1_numberOf_52 rfl rfl rfl ?_
            refine fV_bipush (n := 10) (pc' := 55) G dX1_numberOf_53 rfl rfl ?_
            refine fV_imul (pc' := 56) G dX1_numberOf_55 rfl ?_
            refine fV_aload_n (pc' := 57) G 0 dX1_numberOf_56 rfl rfl rfl ?_
            refine fV_get (K := 1) (v := .ref (Γ.1 213)) (pc' := 60) G kfX1_numberOf_9 (by omega) rfl rfl rfl dX1_numberOf_57 rfl ?_
            refine fV_iload_n (pc' := 61) G 2 dX1_numberOf_60 rfl rfl rfl ?_
            refine fV_iald (K := 7) (n := 160) (pc' := 62) G (by omega) rfl (fun _ _ => rfl) (by decide) (by omega) dX1_numberOf_61 rfl ?_
            have hdg := hdig j (by omega) (by omega) (by omega)
            refine fV_bipush (n := 48) (pc' := 64) G dX1_numberOf_62 rfl rfl ?_
            refine fV_isub (pc' := 65) G dX1_numberOf_64 rfl ?_
            refine fV_iadd (pc' := 66) G dX1_numberOf_65 rfl ?_
            refine fV_istore_n (lv' := [(1, .int (i32 ((v * 10) + ((I 213 j) - 48)))), (0, .ref (Γ.1 212)), (2, .int (i32 j))]) (pc' := 67) G dX1_numberOf_66 rfl (by decide) rfl rfl ?_
            refine fV_iload_n (pc' := 68) G 0 dX1_numberOf_67 rfl rfl rfl ?_
            refine fV_sipush (n := 4000) (pc' := 71) G dX1_numberOf_68 rfl rfl ?_
            refine fV_icmp_le (tgt := 76) (pc' := 74) G dX1_numberOf_71 (by decide) rfl (by omega) (by decide) (fun c104 => ?_) (fun c104 => ?_)
            · refine fV_iinc (lv' := [(2, .int (i32 (j + 1))), (1, .int (i32 ((v * 10) + ((I 213 j) - 48)))), (0, .ref (Γ.1 212))]) (pc' := 79) G 2 dX1_numberOf_76 rfl (by decide) rfl rfl ?_
              refine fV_goto (tgt := 44) G dX1_numberOf_79 (by decide) ?_
              refine fV_lv (lv' := [(0, .ref (Γ.1 212)), (1, .int (i32 ((v * 10) + ((I 213 j) - 48)))), (2, .int (i32 (j + 1)))]) [2, 1, 0] rfl ?_
              exact ih_lp _ (by omega) (j + 1) ((v * 10) + ((I 213 j) - 48)) (by omega) (by rw [hv, show (j + 1 - I 212 3).toNat = (j - I 212 3).toNat + 1 by omega]; show _ = 10 * _ + (I 213 (I 212 3 + ((j - I 212 3).toNat : Nat)) - 48); rw [show I 212 3 + (((j - I 212 3).toNat : Nat) : Int) = j by omega]; omega) (by omega) rfl
            · refine fV_iconst (pc' := 75) G dX1_numberOf_74 rfl ?_
              refine fV_iret G dX1_numberOf_75 ?_
              exact fE_i (by rw [if_pos ⟨by omega, by omega⟩]; unfold tClip; rw [if_neg]; have hm := (dval_mono (T := I 213) (a := I 212 3) (m := (I 212 4 - I 212 3).toNat) (fun q hq => (hdig _ (by omega) (by omega) (by omega)).1) (I 212 4 - I 212 3).toNat (Nat.le_refl _)).2 ((j - I 212 3).toNat + 1) (by omega); have he : dval (I 213) (I 212 3) ((j - I 212 3).toNat + 1) = 10 * dval (I 213) (I 212 3) (j - I 212 3).toNat + (I 213 (I 212 3 + (((j - I 212 3).toNat : Nat) : Int)) - 48) := rfl; rw [show I 212 3 + (((j - I 212 3).toNat : Nat) : Int) = j by omega, ← hv] at he; omega)
      refine fV_lv (lv' := [(0, .ref (Γ.1 212)), (1, .int (i32 0)), (2, .int (i32 (I 212 3)))]) [2, 1, 0] rfl ?_
      exact lp _ (I 212 3) 0 (by omega) (by rw [Int.sub_self]; rfl) (by omega) rfl
    · refine fV_aload_n (pc' := 23) G 0 dX1_numberOf_22 rfl rfl rfl ?_
      refine fV_get (K := 1) (v := .int (i32 (I 212 4))) (pc' := 26) G kfX1_numberOf_15 (by omega) rfl rfl rfl dX1_numberOf_23 rfl ?_
      refine fV_aload_n (pc' := 27) G 0 dX1_numberOf_26 rfl rfl rfl ?_
      refine fV_get (K := 1) (v := .int (i32 (I 212 3))) (pc' := 30) G kfX1_numberOf_29 (by omega) rfl rfl rfl dX1_numberOf_27 rfl ?_
      refine fV_isub (pc' := 31) G dX1_numberOf_30 rfl ?_
      refine fV_iconst (pc' := 32) G dX1_numberOf_31 rfl ?_
      refine fV_icmp_le (tgt := 37) (pc' := 35) G dX1_numberOf_32 (by decide) rfl (by omega) (by decide) (fun c3 => ?_) (fun c3 => ?_)
      · refine fV_iconst (pc' := 38) G dX1_numberOf_37 rfl ?_
        refine fV_istore_n (lv' := [(1, .int (i32 0)), (0, .ref (Γ.1 212))]) (pc' := 39) G dX1_numberOf_38 rfl (by decide) rfl rfl ?_
        refine fV_aload_n (pc' := 40) G 1 dX1_numberOf_39 rfl rfl rfl ?_
        refine fV_get (K := 1) (v := .int (i32 (I 212 3))) (pc' := 43) G kfX1_numberOf_29 (by omega) rfl rfl rfl dX1_numberOf_40 rfl ?_
        refine fV_istore_n (lv' := [(2, .int (i32 (I 212 3))), (1, .int (i32 0)), (0, .ref (Γ.1 212))]) (pc' := 44) G dX1_numberOf_43 rfl (by decide) rfl rfl ?_
        have lp : ∀ (z : Nat) (j : Int) (v : Int), I 212 3 ≤ j ∧ j ≤ I 212 4 → v = dval (I 213) (I 212 3) (j - I 212 3).toNat → (0 ≤ v ∧ v ≤ 4000) → ((I 212 4 - j).toNat) = z → fV p l e rmX1_numberOf s m args below meth c (MQ below (fQ Γ N (fE (some (.int (i32 (if I 212 2 = 2 ∧ ¬ (I 213 (I 212 3) = 48 ∧ 1 < I 212 4 - I 212 3) then tClip (dval (I 213) (I 212 3) (I 212 4 - I 212 3).toNat) else -1)))) I P)) args s 0 0 (fA Γ N)) (fA Γ N) Γ N 3 0 0 I P 44 [(0, .ref (Γ.1 212)), (1, .int (i32 v)), (2, .int (i32 j))] [] := by
          intro z
          induction z using Nat.strongRecOn with
          | _ z ih_lp =>
            intro j v hj hv hvb hz_lp
            refine fV_iload_n (pc' := 45) G 2 dX1_numberOf_44 rfl rfl rfl ?_
            refine fV_aload_n (pc' := 46) G 0 dX1_numberOf_45 rfl rfl rfl ?_
            refine fV_get (K := 1) (v := .int (i32 (I 212 4))) (pc' := 49) G kfX1_numberOf_15 (by omega) rfl rfl rfl dX1_numberOf_46 rfl ?_
            refine fV_icmp_ge (tgt := 82) (pc' := 52) G dX1_numberOf_49 (by decide) rfl (by omega) (by omega) (fun c104 => ?_) (fun c104 => ?_)
            · refine fV_iload_n (pc' := 83) G 1 dX1_numberOf_82 rfl rfl rfl ?_
              refine fV_iret G dX1_numberOf_83 ?_
              exact fE_i (by rw [if_pos ⟨by omega, by omega⟩, hv, show j = I 212 4 by omega]; unfold tClip; rw [if_pos (by rw [hv, show j = I 212 4 by omega] at hvb; exact hvb.2)])
            · refine fV_iload_n (pc' := 53) G 1 dX1_numberOf_52 rfl rfl rfl ?_
              refine fV_bipush (n := 10) (pc' := 55) G dX1_numberOf_53 rfl rfl ?_
              refine fV_imul (pc' := 56) G dX1_numberOf_55 rfl ?_
              refine fV_aload_n (pc' := 57) G 0 dX1_numberOf_56 rfl rfl rfl ?_
              refine fV_get (K := 1) (v := .ref (Γ.1 213)) (pc' := 60) G kfX1_numberOf_9 (by omega) rfl rfl rfl dX1_numberOf_57 rfl ?_
              refine fV_iload_n (pc' := 61) G 2 dX1_numberOf_60 rfl rfl rfl ?_
              refine fV_iald (K := 7) (n := 160) (pc' := 62) G (by omega) rfl (fun _ _ => rfl) (by decide) (by omega) dX1_numberOf_61 rfl ?_
              have hdg := hdig j (by omega) (by omega) (by omega)
              refine fV_bipush (n := 48) (pc' := 64) G dX1_numberOf_62 rfl rfl ?_
              refine fV_isub (pc' := 65) G dX1_numberOf_64 rfl ?_
              refine fV_iadd (pc' := 66) G dX1_numberOf_65 rfl ?_
              refine fV_istore_n (lv' := [(1, .int (i32 ((v * 10) + ((I 213 j) - 48)))), (0, .ref (Γ.1 212)), (2, .int (i32 j))]) (pc' := 67) G dX1_numberOf_66 rfl (by decide) rfl rfl ?_
              refine fV_iload_n (pc' := 68) G 0 dX1_numberOf_67 rfl rfl rfl ?_
              refine fV_sipush (n := 4000) (pc' := 71) G dX1_numberOf_68 rfl rfl ?_
              refine fV_icmp_le (tgt := 76) (pc' := 74) G dX1_numberOf_71 (by decide) rfl (by omega) (by decide) (fun c105 => ?_) (fun c105 => ?_)
              · refine fV_iinc (lv' := [(2, .int (i32 (j + 1))), (1, .int (i32 ((v * 10) + ((I 213 j) - 48)))), (0, .ref (Γ.1 212))]) (pc' := 79) G 2 dX1_numberOf_76 rfl (by decide) rfl rfl ?_
                refine fV_goto (tgt := 44) G dX1_numberOf_79 (by decide) ?_
                refine fV_lv (lv' := [(0, .ref (Γ.1 212)), (1, .int (i32 ((v * 10) + ((I 213 j) - 48)))), (2, .int (i32 (j + 1)))]) [2, 1, 0] rfl ?_
                exact ih_lp _ (by omega) (j + 1) ((v * 10) + ((I 213 j) - 48)) (by omega) (by rw [hv, show (j + 1 - I 212 3).toNat = (j - I 212 3).toNat + 1 by omega]; show _ = 10 * _ + (I 213 (I 212 3 + ((j - I 212 3).toNat : Nat)) - 48); rw [show I 212 3 + (((j - I 212 3).toNat : Nat) : Int) = j by omega]; omega) (by omega) rfl
              · refine fV_iconst (pc' := 75) G dX1_numberOf_74 rfl ?_
                refine fV_iret G dX1_numberOf_75 ?_
                exact fE_i (by rw [if_pos ⟨by omega, by omega⟩]; unfold tClip; rw [if_neg]; have hm := (dval_mono (T := I 213) (a := I 212 3) (m := (I 212 4 - I 212 3).toNat) (fun q hq => (hdig _ (by omega) (by omega) (by omega)).1) (I 212 4 - I 212 3).toNat (Nat.le_refl _)).2 ((j - I 212 3).toNat + 1) (by omega); have he : dval (I 213) (I 212 3) ((j - I 212 3).toNat + 1) = 10 * dval (I 213) (I 212 3) (j - I 212 3).toNat + (I 213 (I 212 3 + (((j - I 212 3).toNat : Nat) : Int)) - 48) := rfl; rw [show I 212 3 + (((j - I 212 3).toNat : Nat) : Int) = j by omega, ← hv] at he; omega)
        refine fV_lv (lv' := [(0, .ref (Γ.1 212)), (1, .int (i32 0)), (2, .int (i32 (I 212 3)))]) [2, 1, 0] rfl ?_
        exact lp _ (I 212 3) 0 (by omega) (by rw [Int.sub_self]; rfl) (by omega) rfl
      · refine fV_iconst (pc' := 36) G dX1_numberOf_35 rfl ?_
        refine fV_iret G dX1_numberOf_36 ?_
        exact fE_i (by rw [if_neg (by omega)])
set_option maxHeartbeats 4000000 in
set_option maxRecDepth 100000 in
theorem mX1_step (l : Launch) (Γ : fG) {N : Nat} (hN : 214 ≤ N) (I : fM) (P : fN) (hn : 0 ≤ I 212 1 ∧ I 212 1 ≤ 160) (hT : tOk (I 213) (I 212 1)) (h4 : 0 ≤ I 212 4 ∧ I 212 4 ≤ I 212 1) : fMet l yX1_step wsX1_step rmX1_step Γ N [.ref (Γ.1 212)] I P (fE none (tStep I) P) := by
  refine fMet_of (own := RX1) (cc := cX1_step) (maxL := 1) (ret := none) rfl (by decide +kernel) rfl (Nat.le_of_ble_eq_true rfl) ?_
  intro p e s m args below meth c G
  refine fV_lv (lv' := [(0, .ref (Γ.1 212))]) [0] rfl ?_
  refine fV_aload_n (pc' := 1) G 0 dX1_step_0 rfl rfl rfl ?_
  refine fV_aload_n (pc' := 2) G 0 dX1_step_1 rfl rfl rfl ?_
  refine fV_get (K := 1) (v := .int (i32 (I 212 4))) (pc' := 5) G kfX1_step_15 (by omega) rfl rfl rfl dX1_step_2 rfl ?_
  refine fV_put (K := 1) (jj := 3) (x := I 212 4) (v := .int (i32 (I 212 4))) (ty := .int) (pc' := 8) G kfX1_step_29 (by omega) rfl rfl rfl kp1_3 rfl rfl (Nat.le_of_ble_eq_true rfl) dX1_step_5 rfl (fun I1 eI1 => ?_)
  have lpa : ∀ (z : Nat) (j : Int) (J : fM), I 212 4 ≤ j ∧ j ≤ I 212 1 → j ≤ tS (I 213) (I 212 1) (I 212 4) → J = fup I 212 3 j → ((I 212 1 - j).toNat) = z → fV p l e rmX1_step s m args below meth c (MQ below (fQ Γ N (fE none (tStep I) P)) args s 0 0 (fA Γ N)) (fA Γ N) Γ N 1 0 0 J P 8 [(0, .ref (Γ.1 212))] [] := by
    intro z
    induction z using Nat.strongRecOn with
    | _ z ih_lpa =>
      intro j J hj hq hJ hz_lpa
      refine fV_aload_n (pc' := 9) G 0 dX1_step_8 rfl rfl rfl ?_
      refine fV_get (K := 1) (v := .int (i32 (J 212 3))) (pc' := 12) G kfX1_step_29 (by omega) rfl rfl rfl dX1_step_9 rfl ?_
      refine fV_top (b := j) (by rw [hJ]; simp [fup]) ?_
      refine fV_aload_n (pc' := 13) G 0 dX1_step_12 rfl rfl rfl ?_
      refine fV_get (K := 1) (v := .int (i32 (J 212 1))) (pc' := 16) G kfX1_step_93 (by omega) rfl rfl rfl dX1_step_13 rfl ?_
      refine fV_top (b := I 212 1) (by rw [hJ]; simp [fup]) ?_
      refine fV_icmp_ge (tgt := 46) (pc' := 19) G dX1_step_16 (by decide) rfl (by omega) (by omega) (fun c102 => ?_) (fun c102 => ?_)
      · have hts : tS (I 213) (I 212 1) (I 212 4) = j := by have := isF_end (sF_is (c := fun i => I 213 i ≠ 32) (a := I 212 4) (b := I 212 1) (by omega)) hq (by omega); unfold tS; omega
        refine fV_aload_n (pc' := 47) G 0 dX1_step_46 rfl rfl rfl ?_
        refine fV_aload_n (pc' := 48) G 0 dX1_step_47 rfl rfl rfl ?_
        refine fV_get (K := 1) (v := .int (i32 (J 212 3))) (pc' := 51) G kfX1_step_29 (by omega) rfl rfl rfl dX1_step_48 rfl ?_
        refine fV_top (b := j) (by rw [hJ]; simp [fup]) ?_
        refine fV_put (K := 1) (jj := 4) (x := j) (v := .int (i32 j)) (ty := .int) (pc' := 54) G kfX1_step_15 (by omega) rfl rfl rfl kp1_4 rfl rfl (Nat.le_of_ble_eq_true rfl) dX1_step_51 rfl (fun I103 eI103 => ?_)
        refine fV_aload_n (pc' := 55) G 0 dX1_step_54 rfl rfl rfl ?_
        refine fV_aload_n (pc' := 56) G 0 dX1_step_55 rfl rfl rfl ?_
        refine fV_aload_n (pc' := 57) G 0 dX1_step_56 rfl rfl rfl ?_
        refine fV_get (K := 1) (v := .int (i32 (I103 212 3))) (pc' := 60) G kfX1_step_29 (by omega) rfl rfl rfl dX1_step_57 rfl ?_
        refine fV_top (b := j) (by rw [eI103, hJ]; simp [fup]) ?_
        have h91 : I103 212 1 = I 212 1 := by rw [eI103, hJ]; simp [fup]
        have h93 : I103 213 = I 213 := by rw [eI103, hJ]; funext b; simp [fup]
        refine fV_callVf (st' := [.int (i32 (tKd (I103 213) (I103 212 1) j)), .ref (Γ.1 212)]) (n := 1) (k := 212) (K := 1) (As := [.int (i32 j)]) (rest := [.ref (Γ.1 212)]) (pc' := 63) G (mX1_kindAt l Γ hN I103 P (by rw [h91]; exact hn) (by rw [h91, h93]; exact hT) j (by omega)) kcX1_step_96 (by omega) rfl rfl rfl rfl (Nat.le_of_ble_eq_true rfl) (Nat.zero_le _) (Nat.zero_le _) dX1_step_60 rfl rfl ?_
        refine fV_top (b := tK (I 213) (I 212 1) (I 212 4)) (by rw [h91, h93]; unfold tK; rw [hts]) ?_
        have hkb := tK_b (I 213) (I 212 1) (I 212 4)
        refine fV_put (K := 1) (jj := 2) (x := tK (I 213) (I 212 1) (I 212 4)) (v := .int (i32 (tK (I 213) (I 212 1) (I 212 4)))) (ty := .int) (pc' := 66) G kfX1_step_22 (by omega) rfl rfl rfl kp1_2 rfl rfl (Nat.le_of_ble_eq_true rfl) dX1_step_63 rfl (fun I104 eI104 => ?_)
        obtain ⟨M, hM⟩ : ∃ M : fM, M = fup (fup (fup I 212 3 j) 212 4 j) 212 2 (tK (I 213) (I 212 1) (I 212 4)) := ⟨_, rfl⟩
        refine fV_mem (I' := M) (P' := P) (by rw [hM, eI104, eI103, hJ]) rfl ?_
        refine fV_aload_n (pc' := 67) G 0 dX1_step_66 rfl rfl rfl ?_
        refine fV_get (K := 1) (v := .int (i32 (M 212 2))) (pc' := 70) G kfX1_step_22 (by omega) rfl rfl rfl dX1_step_67 rfl ?_
        refine fV_top (b := tK (I 213) (I 212 1) (I 212 4)) (by rw [hM]; simp [fup]) ?_
        refine fV_iconst (pc' := 71) G dX1_step_70 rfl ?_
        refine fV_icmp_eq (tgt := 82) (pc' := 74) G dX1_step_71 (by decide) rfl (by omega) (by decide) (fun c105 => ?_) (fun c105 => ?_)
        · have lpb : ∀ (z : Nat) (k : Int) (K : fM), j ≤ k ∧ k ≤ I 212 1 → k ≤ sF (fun i => tKd (I 213) (I 212 1) i ≠ tK (I 213) (I 212 1) (I 212 4)) j (I 212 1) → K = fup M 212 4 k → ((I 212 1 - k).toNat) = z → fV p l e rmX1_step s m args below meth c (MQ below (fQ Γ N (fE none (tStep I) P)) args s 0 0 (fA Γ N)) (fA Γ N) Γ N 1 0 0 K P 82 [(0, .ref (Γ.1 212))] [] := by
            intro z
            induction z using Nat.strongRecOn with
            | _ z ih_lpb =>
              intro k K hk hq2 hK hz_lpb
              refine fV_aload_n (pc' := 83) G 0 dX1_step_82 rfl rfl rfl ?_
              refine fV_get (K := 1) (v := .int (i32 (K 212 4))) (pc' := 86) G kfX1_step_15 (by omega) rfl rfl rfl dX1_step_83 rfl ?_
              refine fV_top (b := k) (by rw [hK, hM]; simp [fup]) ?_
              refine fV_aload_n (pc' := 87) G 0 dX1_step_86 rfl rfl rfl ?_
              refine fV_get (K := 1) (v := .int (i32 (K 212 1))) (pc' := 90) G kfX1_step_93 (by omega) rfl rfl rfl dX1_step_87 rfl ?_
              refine fV_top (b := I 212 1) (by rw [hK, hM]; simp [fup]) ?_
              refine fV_icmp_ge (tgt := 138) (pc' := 93) G dX1_step_90 (by decide) rfl (by omega) (by omega) (fun c206 => ?_) (fun c206 => ?_)
              · have hen : sF (fun i => tKd (I 213) (I 212 1) i ≠ tK (I 213) (I 212 1) (I 212 4)) j (I 212 1) = k := by have := isF_end (sF_is (c := fun i => tKd (I 213) (I 212 1) i ≠ tK (I 213) (I 212 1) (I 212 4)) (a := j) (b := I 212 1) (by omega)) hq2 (by omega); omega
                refine fV_vret G dX1_step_138 ?_
                exact fE_vm (step_end hts (by rw [hK, hM]; exact congrArg (fup _ 212 4) (by unfold tE; rw [if_pos (by omega), hts, hen]))) rfl
              · refine fV_aload_n (pc' := 94) G 0 dX1_step_93 rfl rfl rfl ?_
                refine fV_aload_n (pc' := 95) G 0 dX1_step_94 rfl rfl rfl ?_
                refine fV_get (K := 1) (v := .int (i32 (K 212 4))) (pc' := 98) G kfX1_step_15 (by omega) rfl rfl rfl dX1_step_95 rfl ?_
                refine fV_top (b := k) (by rw [hK, hM]; simp [fup]) ?_
                have h91 : K 212 1 = I 212 1 := by rw [hK, hM]; simp [fup]
                have h93 : K 213 = I 213 := by rw [hK, hM]; funext b; simp [fup]
                refine fV_callVf (st' := [.int (i32 (tKd (K 213) (K 212 1) k))]) (n := 1) (k := 212) (K := 1) (As := [.int (i32 k)]) (rest := []) (pc' := 101) G (mX1_kindAt l Γ hN K P (by rw [h91]; exact hn) (by rw [h91, h93]; exact hT) k (by omega)) kcX1_step_96 (by omega) rfl rfl rfl rfl (Nat.le_of_ble_eq_true rfl) (Nat.zero_le _) (Nat.zero_le _) dX1_step_98 rfl rfl ?_
                refine fV_top (b := tKd (I 213) (I 212 1) k) (by rw [h91, h93]) ?_
                have hkkb := tKd_b (I 213) (I 212 1) k
                refine fV_aload_n (pc' := 102) G 0 dX1_step_101 rfl rfl rfl ?_
                refine fV_get (K := 1) (v := .int (i32 (K 212 2))) (pc' := 105) G kfX1_step_22 (by omega) rfl rfl rfl dX1_step_102 rfl ?_
                refine fV_top (b := tK (I 213) (I 212 1) (I 212 4)) (by rw [hK, hM]; simp [fup]) ?_
                refine fV_icmp_ne (tgt := 138) (pc' := 108) G dX1_step_105 (by decide) rfl (by omega) (by omega) (fun c207 => ?_) (fun c207 => ?_)
                · have hen : sF (fun i => tKd (I 213) (I 212 1) i ≠ tK (I 213) (I 212 1) (I 212 4)) j (I 212 1) = k := isF_hit (sF_is (by omega)) (by omega) hq2 c207
                  refine fV_vret G dX1_step_138 ?_
                  exact fE_vm (step_end hts (by rw [hK, hM]; exact congrArg (fup _ 212 4) (by unfold tE; rw [if_pos (by omega), hts, hen]))) rfl
                · have hke : tKd (I 213) (I 212 1) k = tK (I 213) (I 212 1) (I 212 4) := by omega
                  refine fV_aload_n (pc' := 109) G 0 dX1_step_108 rfl rfl rfl ?_
                  refine fV_dup (pc' := 110) G dX1_step_109 rfl rfl ?_
                  refine fV_get (K := 1) (v := .int (i32 (K 212 4))) (pc' := 113) G kfX1_step_15 (by omega) rfl rfl rfl dX1_step_110 rfl ?_
                  refine fV_top (b := k) (by rw [hK, hM]; simp [fup]) ?_
                  refine fV_iconst (pc' := 114) G dX1_step_113 rfl ?_
                  refine fV_iadd (pc' := 115) G dX1_step_114 rfl ?_
                  refine fV_put (K := 1) (jj := 4) (x := k + 1) (v := .int (i32 (k + 1))) (ty := .int) (pc' := 118) G kfX1_step_15 (by omega) rfl rfl rfl kp1_4 rfl rfl (Nat.le_of_ble_eq_true rfl) dX1_step_115 rfl (fun I208 eI208 => ?_)
                  refine fV_goto (tgt := 82) G dX1_step_118 (by decide) ?_
                  exact ih_lpb _ (by omega) (k + 1) I208 (by omega) (isF_step (sF_is (by omega)) hq2 (by omega) (fun z => z hke)) (by rw [eI208, hK]; exact fup_fup) rfl
          refine fV_lv (lv' := [(0, .ref (Γ.1 212))]) [0] rfl ?_
          exact lpb _ j M (by omega) ((sF_is (by omega)).1.1) (by symm; exact fup_id (by rw [hM]; simp [fup])) rfl
        · refine fV_aload_n (pc' := 75) G 0 dX1_step_74 rfl rfl rfl ?_
          refine fV_get (K := 1) (v := .int (i32 (M 212 2))) (pc' := 78) G kfX1_step_22 (by omega) rfl rfl rfl dX1_step_75 rfl ?_
          refine fV_top (b := tK (I 213) (I 212 1) (I 212 4)) (by rw [hM]; simp [fup]) ?_
          refine fV_iconst (pc' := 79) G dX1_step_78 rfl ?_
          refine fV_icmp_ne (tgt := 121) (pc' := 82) G dX1_step_79 (by decide) rfl (by omega) (by decide) (fun c106 => ?_) (fun c106 => ?_)
          · refine fV_aload_n (pc' := 122) G 0 dX1_step_121 rfl rfl rfl ?_
            refine fV_get (K := 1) (v := .int (i32 (M 212 2))) (pc' := 125) G kfX1_step_22 (by omega) rfl rfl rfl dX1_step_122 rfl ?_
            refine fV_top (b := tK (I 213) (I 212 1) (I 212 4)) (by rw [hM]; simp [fup]) ?_
            refine fV_if_eq (tgt := 138) (pc' := 128) G dX1_step_125 (by decide) rfl (by omega) (fun c107 => ?_) (fun c107 => ?_)
            · refine fV_vret G dX1_step_138 ?_
              exact fE_vm (step_end hts (by rw [show fup (fup (fup I 212 3 j) 212 4 j) 212 2 (tK (I 213) (I 212 1) (I 212 4)) = M from hM.symm]; symm; refine (fup_id ?_); rw [hM, tE_else (by omega) (by omega), hts]; simp [fup])) rfl
            · refine fV_aload_n (pc' := 129) G 0 dX1_step_128 rfl rfl rfl ?_
              refine fV_dup (pc' := 130) G dX1_step_129 rfl rfl ?_
              refine fV_get (K := 1) (v := .int (i32 (M 212 4))) (pc' := 133) G kfX1_step_15 (by omega) rfl rfl rfl dX1_step_130 rfl ?_
              refine fV_top (b := j) (by rw [hM]; simp [fup]) ?_
              refine fV_iconst (pc' := 134) G dX1_step_133 rfl ?_
              refine fV_iadd (pc' := 135) G dX1_step_134 rfl ?_
              refine fV_put (K := 1) (jj := 4) (x := j + 1) (v := .int (i32 (j + 1))) (ty := .int) (pc' := 138) G kfX1_step_15 (by omega) rfl rfl rfl kp1_4 rfl rfl (Nat.le_of_ble_eq_true rfl) dX1_step_135 rfl (fun I108 eI108 => ?_)
              refine fV_vret G dX1_step_138 ?_
              exact fE_vm (step_end hts (by rw [eI108, hM]; exact congrArg (fup _ 212 4) (by unfold tE; rw [if_neg (by omega), if_pos (by omega), hts]))) rfl
          · have lpb : ∀ (z : Nat) (k : Int) (K : fM), j ≤ k ∧ k ≤ I 212 1 → k ≤ sF (fun i => tKd (I 213) (I 212 1) i ≠ tK (I 213) (I 212 1) (I 212 4)) j (I 212 1) → K = fup M 212 4 k → ((I 212 1 - k).toNat) = z → fV p l e rmX1_step s m args below meth c (MQ below (fQ Γ N (fE none (tStep I) P)) args s 0 0 (fA Γ N)) (fA Γ N) Γ N 1 0 0 K P 82 [(0, .ref (Γ.1 212))] [] := by
              intro z
              induction z using Nat.strongRecOn with
              | _ z ih_lpb =>
                intro k K hk hq2 hK hz_lpb
                refine fV_aload_n (pc' := 83) G 0 dX1_step_82 rfl rfl rfl ?_
                refine fV_get (K := 1) (v := .int (i32 (K 212 4))) (pc' := 86) G kfX1_step_15 (by omega) rfl rfl rfl dX1_step_83 rfl ?_
                refine fV_top (b := k) (by rw [hK, hM]; simp [fup]) ?_
                refine fV_aload_n (pc' := 87) G 0 dX1_step_86 rfl rfl rfl ?_
                refine fV_get (K := 1) (v := .int (i32 (K 212 1))) (pc' := 90) G kfX1_step_93 (by omega) rfl rfl rfl dX1_step_87 rfl ?_
                refine fV_top (b := I 212 1) (by rw [hK, hM]; simp [fup]) ?_
                refine fV_icmp_ge (tgt := 138) (pc' := 93) G dX1_step_90 (by decide) rfl (by omega) (by omega) (fun c207 => ?_) (fun c207 => ?_)
                · have hen : sF (fun i => tKd (I 213) (I 212 1) i ≠ tK (I 213) (I 212 1) (I 212 4)) j (I 212 1) = k := by have := isF_end (sF_is (c := fun i => tKd (I 213) (I 212 1) i ≠ tK (I 213) (I 212 1) (I 212 4)) (a := j) (b := I 212 1) (by omega)) hq2 (by omega); omega
                  refine fV_vret G dX1_step_138 ?_
                  exact fE_vm (step_end hts (by rw [hK, hM]; exact congrArg (fup _ 212 4) (by unfold tE; rw [if_pos (by omega), hts, hen]))) rfl
                · refine fV_aload_n (pc' := 94) G 0 dX1_step_93 rfl rfl rfl ?_
                  refine fV_aload_n (pc' := 95) G 0 dX1_step_94 rfl rfl rfl ?_
                  refine fV_get (K := 1) (v := .int (i32 (K 212 4))) (pc' := 98) G kfX1_step_15 (by omega) rfl rfl rfl dX1_step_95 rfl ?_
                  refine fV_top (b := k) (by rw [hK, hM]; simp [fup]) ?_
                  have h91 : K 212 1 = I 212 1 := by rw [hK, hM]; simp [fup]
                  have h93 : K 213 = I 213 := by rw [hK, hM]; funext b; simp [fup]
                  refine fV_callVf (st' := [.int (i32 (tKd (K 213) (K 212 1) k))]) (n := 1) (k := 212) (K := 1) (As := [.int (i32 k)]) (rest := []) (pc' := 101) G (mX1_kindAt l Γ hN K P (by rw [h91]; exact hn) (by rw [h91, h93]; exact hT) k (by omega)) kcX1_step_96 (by omega) rfl rfl rfl rfl (Nat.le_of_ble_eq_true rfl) (Nat.zero_le _) (Nat.zero_le _) dX1_step_98 rfl rfl ?_
                  refine fV_top (b := tKd (I 213) (I 212 1) k) (by rw [h91, h93]) ?_
                  have hkkb := tKd_b (I 213) (I 212 1) k
                  refine fV_aload_n (pc' := 102) G 0 dX1_step_101 rfl rfl rfl ?_
                  refine fV_get (K := 1) (v := .int (i32 (K 212 2))) (pc' := 105) G kfX1_step_22 (by omega) rfl rfl rfl dX1_step_102 rfl ?_
                  refine fV_top (b := tK (I 213) (I 212 1) (I 212 4)) (by rw [hK, hM]; simp [fup]) ?_
                  refine fV_icmp_ne (tgt := 138) (pc' := 108) G dX1_step_105 (by decide) rfl (by omega) (by omega) (fun c208 => ?_) (fun c208 => ?_)
                  · have hen : sF (fun i => tKd (I 213) (I 212 1) i ≠ tK (I 213) (I 212 1) (I 212 4)) j (I 212 1) = k := isF_hit (sF_is (by omega)) (by omega) hq2 c208
                    refine fV_vret G dX1_step_138 ?_
                    exact fE_vm (step_end hts (by rw [hK, hM]; exact congrArg (fup _ 212 4) (by unfold tE; rw [if_pos (by omega), hts, hen]))) rfl
                  · have hke : tKd (I 213) (I 212 1) k = tK (I 213) (I 212 1) (I 212 4) := by omega
                    refine fV_aload_n (pc' := 109) G 0 dX1_step_108 rfl rfl rfl ?_
                    refine fV_dup (pc' := 110) G dX1_step_109 rfl rfl ?_
                    refine fV_get (K := 1) (v := .int (i32 (K 212 4))) (pc' := 113) G kfX1_step_15 (by omega) rfl rfl rfl dX1_step_110 rfl ?_
                    refine fV_top (b := k) (by rw [hK, hM]; simp [fup]) ?_
                    refine fV_iconst (pc' := 114) G dX1_step_113 rfl ?_
                    refine fV_iadd (pc' := 115) G dX1_step_114 rfl ?_
                    refine fV_put (K := 1) (jj := 4) (x := k + 1) (v := .int (i32 (k + 1))) (ty := .int) (pc' := 118) G kfX1_step_15 (by omega) rfl rfl rfl kp1_4 rfl rfl (Nat.le_of_ble_eq_true rfl) dX1_step_115 rfl (fun I209 eI209 => ?_)
                    refine fV_goto (tgt := 82) G dX1_step_118 (by decide) ?_
                    exact ih_lpb _ (by omega) (k + 1) I209 (by omega) (isF_step (sF_is (by omega)) hq2 (by omega) (fun z => z hke)) (by rw [eI209, hK]; exact fup_fup) rfl
            refine fV_lv (lv' := [(0, .ref (Γ.1 212))]) [0] rfl ?_
            exact lpb _ j M (by omega) ((sF_is (by omega)).1.1) (by symm; exact fup_id (by rw [hM]; simp [fup])) rfl
      · refine fV_aload_n (pc' := 20) G 0 dX1_step_19 rfl rfl rfl ?_
        refine fV_get (K := 1) (v := .ref (Γ.1 213)) (pc' := 23) G kfX1_step_9 (by omega) rfl rfl rfl dX1_step_20 rfl ?_
        refine fV_aload_n (pc' := 24) G 0 dX1_step_23 rfl rfl rfl ?_
        refine fV_get (K := 1) (v := .int (i32 (J 212 3))) (pc' := 27) G kfX1_step_29 (by omega) rfl rfl rfl dX1_step_24 rfl ?_
        refine fV_top (b := j) (by rw [hJ]; simp [fup]) ?_
        refine fV_iald (K := 7) (n := 160) (pc' := 28) G (by omega) rfl (fun _ _ => rfl) (by decide) (by omega) dX1_step_27 rfl ?_
        refine fV_top (b := I 213 j) (by rw [hJ]; simp [fup]) ?_
        have hTj := hT j (by omega) (by omega)
        refine fV_bipush (n := 32) (pc' := 30) G dX1_step_28 rfl rfl ?_
        refine fV_icmp_ne (tgt := 46) (pc' := 33) G dX1_step_30 (by decide) rfl (by omega) (by decide) (fun c103 => ?_) (fun c103 => ?_)
        · have hts : tS (I 213) (I 212 1) (I 212 4) = j := isF_hit (sF_is (by omega)) (by omega) hq c103
          refine fV_aload_n (pc' := 47) G 0 dX1_step_46 rfl rfl rfl ?_
          refine fV_aload_n (pc' := 48) G 0 dX1_step_47 rfl rfl rfl ?_
          refine fV_get (K := 1) (v := .int (i32 (J 212 3))) (pc' := 51) G kfX1_step_29 (by omega) rfl rfl rfl dX1_step_48 rfl ?_
          refine fV_top (b := j) (by rw [hJ]; simp [fup]) ?_
          refine fV_put (K := 1) (jj := 4) (x := j) (v := .int (i32 j)) (ty := .int) (pc' := 54) G kfX1_step_15 (by omega) rfl rfl rfl kp1_4 rfl rfl (Nat.le_of_ble_eq_true rfl) dX1_step_51 rfl (fun I104 eI104 => ?_)
          refine fV_aload_n (pc' := 55) G 0 dX1_step_54 rfl rfl rfl ?_
          refine fV_aload_n (pc' := 56) G 0 dX1_step_55 rfl rfl rfl ?_
          refine fV_aload_n (pc' := 57) G 0 dX1_step_56 rfl rfl rfl ?_
          refine fV_get (K := 1) (v := .int (i32 (I104 212 3))) (pc' := 60) G kfX1_step_29 (by omega) rfl rfl rfl dX1_step_57 rfl ?_
          refine fV_top (b := j) (by rw [eI104, hJ]; simp [fup]) ?_
          have h91 : I104 212 1 = I 212 1 := by rw [eI104, hJ]; simp [fup]
          have h93 : I104 213 = I 213 := by rw [eI104, hJ]; funext b; simp [fup]
          refine fV_callVf (st' := [.int (i32 (tKd (I104 213) (I104 212 1) j)), .ref (Γ.1 212)]) (n := 1) (k := 212) (K := 1) (As := [.int (i32 j)]) (rest := [.ref (Γ.1 212)]) (pc' := 63) G (mX1_kindAt l Γ hN I104 P (by rw [h91]; exact hn) (by rw [h91, h93]; exact hT) j (by omega)) kcX1_step_96 (by omega) rfl rfl rfl rfl (Nat.le_of_ble_eq_true rfl) (Nat.zero_le _) (Nat.zero_le _) dX1_step_60 rfl rfl ?_
          refine fV_top (b := tK (I 213) (I 212 1) (I 212 4)) (by rw [h91, h93]; unfold tK; rw [hts]) ?_
          have hkb := tK_b (I 213) (I 212 1) (I 212 4)
          refine fV_put (K := 1) (jj := 2) (x := tK (I 213) (I 212 1) (I 212 4)) (v := .int (i32 (tK (I 213) (I 212 1) (I 212 4)))) (ty := .int) (pc' := 66) G kfX1_step_22 (by omega) rfl rfl rfl kp1_2 rfl rfl (Nat.le_of_ble_eq_true rfl) dX1_step_63 rfl (fun I105 eI105 => ?_)
          obtain ⟨M, hM⟩ : ∃ M : fM, M = fup (fup (fup I 212 3 j) 212 4 j) 212 2 (tK (I 213) (I 212 1) (I 212 4)) := ⟨_, rfl⟩
          refine fV_mem (I' := M) (P' := P) (by rw [hM, eI105, eI104, hJ]) rfl ?_
          refine fV_aload_n (pc' := 67) G 0 dX1_step_66 rfl rfl rfl ?_
          refine fV_get (K := 1) (v := .int (i32 (M 212 2))) (pc' := 70) G kfX1_step_22 (by omega) rfl rfl rfl dX1_step_67 rfl ?_
          refine fV_top (b := tK (I 213) (I 212 1) (I 212 4)) (by rw [hM]; simp [fup]) ?_
          refine fV_iconst (pc' := 71) G dX1_step_70 rfl ?_
          refine fV_icmp_eq (tgt := 82) (pc' := 74) G dX1_step_71 (by decide) rfl (by omega) (by decide) (fun c106 => ?_) (fun c106 => ?_)
          · have lpb : ∀ (z : Nat) (k : Int) (K : fM), j ≤ k ∧ k ≤ I 212 1 → k ≤ sF (fun i => tKd (I 213) (I 212 1) i ≠ tK (I 213) (I 212 1) (I 212 4)) j (I 212 1) → K = fup M 212 4 k → ((I 212 1 - k).toNat) = z → fV p l e rmX1_step s m args below meth c (MQ below (fQ Γ N (fE none (tStep I) P)) args s 0 0 (fA Γ N)) (fA Γ N) Γ N 1 0 0 K P 82 [(0, .ref (Γ.1 212))] [] := by
              intro z
              induction z using Nat.strongRecOn with
              | _ z ih_lpb =>
                intro k K hk hq2 hK hz_lpb
                refine fV_aload_n (pc' := 83) G 0 dX1_step_82 rfl rfl rfl ?_
                refine fV_get (K := 1) (v := .int (i32 (K 212 4))) (pc' := 86) G kfX1_step_15 (by omega) rfl rfl rfl dX1_step_83 rfl ?_
                refine fV_top (b := k) (by rw [hK, hM]; simp [fup]) ?_
                refine fV_aload_n (pc' := 87) G 0 dX1_step_86 rfl rfl rfl ?_
                refine fV_get (K := 1) (v := .int (i32 (K 212 1))) (pc' := 90) G kfX1_step_93 (by omega) rfl rfl rfl dX1_step_87 rfl ?_
                refine fV_top (b := I 212 1) (by rw [hK, hM]; simp [fup]) ?_
                refine fV_icmp_ge (tgt := 138) (pc' := 93) G dX1_step_90 (by decide) rfl (by omega) (by omega) (fun c207 => ?_) (fun c207 => ?_)
                · have hen : sF (fun i => tKd (I 213) (I 212 1) i ≠ tK (I 213) (I 212 1) (I 212 4)) j (I 212 1) = k := by have := isF_end (sF_is (c := fun i => tKd (I 213) (I 212 1) i ≠ tK (I 213) (I 212 1) (I 212 4)) (a := j) (b := I 212 1) (by omega)) hq2 (by omega); omega
                  refine fV_vret G dX1_step_138 ?_
                  exact fE_vm (step_end hts (by rw [hK, hM]; exact congrArg (fup _ 212 4) (by unfold tE; rw [if_pos (by omega), hts, hen]))) rfl
                · refine fV_aload_n (pc' := 94) G 0 dX1_step_93 rfl rfl rfl ?_
                  refine fV_aload_n (pc' := 95) G 0 dX1_step_94 rfl rfl rfl ?_
                  refine fV_get (K := 1) (v := .int (i32 (K 212 4))) (pc' := 98) G kfX1_step_15 (by omega) rfl rfl rfl dX1_step_95 rfl ?_
                  refine fV_top (b := k) (by rw [hK, hM]; simp [fup]) ?_
                  have h91 : K 212 1 = I 212 1 := by rw [hK, hM]; simp [fup]
                  have h93 : K 213 = I 213 := by rw [hK, hM]; funext b; simp [fup]
                  refine fV_callVf (st' := [.int (i32 (tKd (K 213) (K 212 1) k))]) (n := 1) (k := 212) (K := 1) (As := [.int (i32 k)]) (rest := []) (pc' := 101) G (mX1_kindAt l Γ hN K P (by rw [h91]; exact hn) (by rw [h91, h93]; exact hT) k (by omega)) kcX1_step_96 (by omega) rfl rfl rfl rfl (Nat.le_of_ble_eq_true rfl) (Nat.zero_le _) (Nat.zero_le _) dX1_step_98 rfl rfl ?_
                  refine fV_top (b := tKd (I 213) (I 212 1) k) (by rw [h91, h93]) ?_
                  have hkkb := tKd_b (I 213) (I 212 1) k
                  refine fV_aload_n (pc' := 102) G 0 dX1_step_101 rfl rfl rfl ?_
                  refine fV_get (K := 1) (v := .int (i32 (K 212 2))) (pc' := 105) G kfX1_step_22 (by omega) rfl rfl rfl dX1_step_102 rfl ?_
                  refine fV_top (b := tK (I 213) (I 212 1) (I 212 4)) (by rw [hK, hM]; simp [fup]) ?_
                  refine fV_icmp_ne (tgt := 138) (pc' := 108) G dX1_step_105 (by decide) rfl (by omega) (by omega) (fun c208 => ?_) (fun c208 => ?_)
                  · have hen : sF (fun i => tKd (I 213) (I 212 1) i ≠ tK (I 213) (I 212 1) (I 212 4)) j (I 212 1) = k := isF_hit (sF_is (by omega)) (by omega) hq2 c208
                    refine fV_vret G dX1_step_138 ?_
                    exact fE_vm (step_end hts (by rw [hK, hM]; exact congrArg (fup _ 212 4) (by unfold tE; rw [if_pos (by omega), hts, hen]))) rfl
                  · have hke : tKd (I 213) (I 212 1) k = tK (I 213) (I 212 1) (I 212 4) := by omega
                    refine fV_aload_n (pc' := 109) G 0 dX1_step_108 rfl rfl rfl ?_
                    refine fV_dup (pc' := 110) G dX1_step_109 rfl rfl ?_
                    refine fV_get (K := 1) (v := .int (i32 (K 212 4))) (pc' := 113) G kfX1_step_15 (by omega) rfl rfl rfl dX1_step_110 rfl ?_
                    refine fV_top (b := k) (by rw [hK, hM]; simp [fup]) ?_
                    refine fV_iconst (pc' := 114) G dX1_step_113 rfl ?_
                    refine fV_iadd (pc' := 115) G dX1_step_114 rfl ?_
                    refine fV_put (K := 1) (jj := 4) (x := k + 1) (v := .int (i32 (k + 1))) (ty := .int) (pc' := 118) G kfX1_step_15 (by omega) rfl rfl rfl kp1_4 rfl rfl (Nat.le_of_ble_eq_true rfl) dX1_step_115 rfl (fun I209 eI209 => ?_)
                    refine fV_goto (tgt := 82) G dX1_step_118 (by decide) ?_
                    exact ih_lpb _ (by omega) (k + 1) I209 (by omega) (isF_step (sF_is (by omega)) hq2 (by omega) (fun z => z hke)) (by rw [eI209, hK]; exact fup_fup) rfl
            refine fV_lv (lv' := [(0, .ref (Γ.1 212))]) [0] rfl ?_
            exact lpb _ j M (by omega) ((sF_is (by omega)).1.1) (by symm; exact fup_id (by rw [hM]; simp [fup])) rfl
          · refine fV_aload_n (pc' := 75) G 0 dX1_step_74 rfl rfl rfl ?_
            refine fV_get (K := 1) (v := .int (i32 (M 212 2))) (pc' := 78) G kfX1_step_22 (by omega) rfl rfl rfl dX1_step_75 rfl ?_
            refine fV_top (b := tK (I 213) (I 212 1) (I 212 4)) (by rw [hM]; simp [fup]) ?_
            refine fV_iconst (pc' := 79) G dX1_step_78 rfl ?_
            refine fV_icmp_ne (tgt := 121) (pc' := 82) G dX1_step_79 (by decide) rfl (by omega) (by decide) (fun c107 => ?_) (fun c107 => ?_)
            · refine fV_aload_n (pc' := 122) G 0 dX1_step_121 rfl rfl rfl ?_
              refine fV_get (K := 1) (v := .int (i32 (M 212 2))) (pc' := 125) G kfX1_step_22 (by omega) rfl rfl rfl dX1_step_122 rfl ?_
              refine fV_top (b := tK (I 213) (I 212 1) (I 212 4)) (by rw [hM]; simp [fup]) ?_
              refine fV_if_eq (tgt := 138) (pc' := 128) G dX1_step_125 (by decide) rfl (by omega) (fun c108 => ?_) (fun c108 => ?_)
              · refine fV_vret G dX1_step_138 ?_
                exact fE_vm (step_end hts (by rw [show fup (fup (fup I 212 3 j) 212 4 j) 212 2 (tK (I 213) (I 212 1) (I 212 4)) = M from hM.symm]; symm; refine (fup_id ?_); rw [hM, tE_else (by omega) (by omega), hts]; simp [fup])) rfl
              · refine fV_aload_n (pc' := 129) G 0 dX1_step_128 rfl rfl rfl ?_
                refine fV_dup (pc' := 130) G dX1_step_129 rfl rfl ?_
                refine fV_get (K := 1) (v := .int (i32 (M 212 4))) (pc' := 133) G kfX1_step_15 (by omega) rfl rfl rfl dX1_step_130 rfl ?_
                refine fV_top (b := j) (by rw [hM]; simp [fup]) ?_
                refine fV_iconst (pc' := 134) G dX1_step_133 rfl ?_
                refine fV_iadd (pc' := 135) G dX1_step_134 rfl ?_
                refine fV_put (K := 1) (jj := 4) (x := j + 1) (v := .int (i32 (j + 1))) (ty := .int) (pc' := 138) G kfX1_step_15 (by omega) rfl rfl rfl kp1_4 rfl rfl (Nat.le_of_ble_eq_true rfl) dX1_step_135 rfl (fun I109 eI109 => ?_)
                refine fV_vret G dX1_step_138 ?_
                exact fE_vm (step_end hts (by rw [eI109, hM]; exact congrArg (fup _ 212 4) (by unfold tE; rw [if_neg (by omega), if_pos (by omega), hts]))) rfl
            · have lpb : ∀ (z : Nat) (k : Int) (K : fM), j ≤ k ∧ k ≤ I 212 1 → k ≤ sF (fun i => tKd (I 213) (I 212 1) i ≠ tK (I 213) (I 212 1) (I 212 4)) j (I 212 1) → K = fup M 212 4 k → ((I 212 1 - k).toNat) = z → fV p l e rmX1_step s m args below meth c (MQ below (fQ Γ N (fE none (tStep I) P)) args s 0 0 (fA Γ N)) (fA Γ N) Γ N 1 0 0 K P 82 [(0, .ref (Γ.1 212))] [] := by
                intro z
                induction z using Nat.strongRecOn with
                | _ z ih_lpb =>
                  intro k K hk hq2 hK hz_lpb
                  refine fV_aload_n (pc' := 83) G 0 dX1_step_82 rfl rfl rfl ?_
                  refine fV_get (K := 1) (v := .int (i32 (K 212 4))) (pc' := 86) G kfX1_step_15 (by omega) rfl rfl rfl dX1_step_83 rfl ?_
                  refine fV_top (b := k) (by rw [hK, hM]; simp [fup]) ?_
                  refine fV_aload_n (pc' := 87) G 0 dX1_step_86 rfl rfl rfl ?_
                  refine fV_get (K := 1) (v := .int (i32 (K 212 1))) (pc' := 90) G kfX1_step_93 (by omega) rfl rfl rfl dX1_step_87 rfl ?_
                  refine fV_top (b := I 212 1) (by rw [hK, hM]; simp [fup]) ?_
                  refine fV_icmp_ge (tgt := 138) (pc' := 93) G dX1_step_90 (by decide) rfl (by omega) (by omega) (fun c208 => ?_) (fun c208 => ?_)
                  · have hen : sF (fun i => tKd (I 213) (I 212 1) i ≠ tK (I 213) (I 212 1) (I 212 4)) j (I 212 1) = k := by have := isF_end (sF_is (c := fun i => tKd (I 213) (I 212 1) i ≠ tK (I 213) (I 212 1) (I 212 4)) (a := j) (b := I 212 1) (by omega)) hq2 (by omega); omega
                    refine fV_vret G dX1_step_138 ?_
                    exact fE_vm (step_end hts (by rw [hK, hM]; exact congrArg (fup _ 212 4) (by unfold tE; rw [if_pos (by omega), hts, hen]))) rfl
                  · refine fV_aload_n (pc' := 94) G 0 dX1_step_93 rfl rfl rfl ?_
                    refine fV_aload_n (pc' := 95) G 0 dX1_step_94 rfl rfl rfl ?_
                    refine fV_get (K := 1) (v := .int (i32 (K 212 4))) (pc' := 98) G kfX1_step_15 (by omega) rfl rfl rfl dX1_step_95 rfl ?_
                    refine fV_top (b := k) (by rw [hK, hM]; simp [fup]) ?_
                    have h91 : K 212 1 = I 212 1 := by rw [hK, hM]; simp [fup]
                    have h93 : K 213 = I 213 := by rw [hK, hM]; funext b; simp [fup]
                    refine fV_callVf (st' := [.int (i32 (tKd (K 213) (K 212 1) k))]) (n := 1) (k := 212) (K := 1) (As := [.int (i32 k)]) (rest := []) (pc' := 101) G (mX1_kindAt l Γ hN K P (by rw [h91]; exact hn) (by rw [h91, h93]; exact hT) k (by omega)) kcX1_step_96 (by omega) rfl rfl rfl rfl (Nat.le_of_ble_eq_true rfl) (Nat.zero_le _) (Nat.zero_le _) dX1_step_98 rfl rfl ?_
                    refine fV_top (b := tKd (I 213) (I 212 1) k) (by rw [h91, h93]) ?_
                    have hkkb := tKd_b (I 213) (I 212 1) k
                    refine fV_aload_n (pc' := 102) G 0 dX1_step_101 rfl rfl rfl ?_
                    refine fV_get (K := 1) (v := .int (i32 (K 212 2))) (pc' := 105) G kfX1_step_22 (by omega) rfl rfl rfl dX1_step_102 rfl ?_
                    refine fV_top (b := tK (I 213) (I 212 1) (I 212 4)) (by rw [hK, hM]; simp [fup]) ?_
                    refine fV_icmp_ne (tgt := 138) (pc' := 108) G dX1_step_105 (by decide) rfl (by omega) (by omega) (fun c209 => ?_) (fun c209 => ?_)
                    · have hen : sF (fun i => tKd (I 213) (I 212 1) i ≠ tK (I 213) (I 212 1) (I 212 4)) j (I 212 1) = k := isF_hit (sF_is (by omega)) (by omega) hq2 c209
                      refine fV_vret G dX1_step_138 ?_
                      exact fE_vm (step_end hts (by rw [hK, hM]; exact congrArg (fup _ 212 4) (by unfold tE; rw [if_pos (by omega), hts, hen]))) rfl
                    · have hke : tKd (I 213) (I 212 1) k = tK (I 213) (I 212 1) (I 212 4) := by omega
                      refine fV_aload_n (pc' := 109) G 0 dX1_step_108 rfl rfl rfl ?_
                      refine fV_dup (pc' := 110) G dX1_step_109 rfl rfl ?_
                      refine fV_get (K := 1) (v := .int (i32 (K 212 4))) (pc' := 113) G kfX1_step_15 (by omega) rfl rfl rfl dX1_step_110 rfl ?_
                      refine fV_top (b := k) (by rw [hK, hM]; simp [fup]) ?_
                      refine fV_iconst (pc' := 114) G dX1_step_113 rfl ?_
                      refine fV_iadd (pc' := 115) G dX1_step_114 rfl ?_
                      refine fV_put (K := 1) (jj := 4) (x := k + 1) (v := .int (i32 (k + 1))) (ty := .int) (pc' := 118) G kfX1_step_15 (by omega) rfl rfl rfl kp1_4 rfl rfl (Nat.le_of_ble_eq_true rfl) dX1_step_115 rfl (fun I210 eI210 => ?_)
                      refine fV_goto (tgt := 82) G dX1_step_118 (by decide) ?_
                      exact ih_lpb _ (by omega) (k + 1) I210 (by omega) (isF_step (sF_is (by omega)) hq2 (by omega) (fun z => z hke)) (by rw [eI210, hK]; exact fup_fup) rfl
              refine fV_lv (lv' := [(0, .ref (Γ.1 212))]) [0] rfl ?_
              exact lpb _ j M (by omega) ((sF_is (by omega)).1.1) (by symm; exact fup_id (by rw [hM]; simp [fup])) rfl
        · refine fV_aload_n (pc' := 34) G 0 dX1_step_33 rfl rfl rfl ?_
          refine fV_dup (pc' := 35) G dX1_step_34 rfl rfl ?_
          refine fV_get (K := 1) (v := .int (i32 (J 212 3))) (pc' := 38) G kfX1_step_29 (by omega) rfl rfl rfl dX1_step_35 rfl ?_
          refine fV_top (b := j) (by rw [hJ]; simp [fup]) ?_
          refine fV_iconst (pc' := 39) G dX1_step_38 rfl ?_
          refine fV_iadd (pc' := 40) G dX1_step_39 rfl ?_
          refine fV_put (K := 1) (jj := 3) (x := j + 1) (v := .int (i32 (j + 1))) (ty := .int) (pc' := 43) G kfX1_step_29 (by omega) rfl rfl rfl kp1_3 rfl rfl (Nat.le_of_ble_eq_true rfl) dX1_step_40 rfl (fun I104 eI104 => ?_)
          refine fV_goto (tgt := 8) G dX1_step_43 (by decide) ?_
          exact ih_lpa _ (by omega) (j + 1) I104 (by omega) (isF_step (sF_is (by omega)) hq (by omega) (by (try dsimp only); omega)) (by rw [eI104, hJ]; exact fup_fup) rfl
  refine fV_lv (lv' := [(0, .ref (Γ.1 212))]) [0] rfl ?_
  exact lpa _ (I 212 4) I1 (by omega) ((sF_is (by omega)).1.1) eI1 rfl
