/-! LAW: low, cell, digest (rows laid by wip/p27/gen/lcon1.py) -/
def lom (x : Int) : Int := (i32 x &&& i32 2147483647).toInt
def lo (x n : Int) : Int := lom x % n
def sr (x n : Int) : Int := (i32 x >>> (i32 n &&& 31)).toInt
def kd (x : Int) : Int := (i32 x &&& i32 15).toInt
theorem lom_b (x : Int) : 0 ≤ lom x ∧ lom x ≤ 2147483647 := by
  have h := i32_r (i32 x &&& i32 2147483647)
  refine ⟨?_, h.2⟩
  have e : (i32 x &&& i32 2147483647).toBitVec.msb = false := by
    rw [Int32.toBitVec_and, BitVec.msb_and]
    have e1 : (i32 2147483647).toBitVec.msb = false := by decide
    rw [e1, Bool.and_false]
  show 0 ≤ (i32 x &&& i32 2147483647).toBitVec.toInt
  rw [BitVec.toInt_eq_toNat_of_msb e]
  omega
theorem lo_b (x : Int) {n : Int} (h : 1 ≤ n) : 0 ≤ lo x n ∧ lo x n < n := ⟨Int.emod_nonneg _ (by omega), Int.emod_lt_of_pos _ (by omega)⟩
theorem lo_b2 (x n : Int) (h : 1 ≤ n) : 0 ≤ lo x n ∧ lo x n < n := lo_b x h
theorem sr_b (x n : Int) : -2147483648 ≤ sr x n ∧ sr x n ≤ 2147483647 := i32_r _
theorem kd_b (x : Int) : -2147483648 ≤ kd x ∧ kd x ≤ 2147483647 := i32_r _
theorem klL_low_7 : Cond.constant RL 7 (i32 2147483647) ∈ wsL_low := by decide +kernel
theorem fV_i2lw {p : Program} {l : Launch} {e : Env} {R : Room} {s : State} {m : MethodId} {args : Array Value} {below : List Frame} {meth : Method} {c : Code} {Q : State → Prop} {A : Nat → Prop} {Γ : fG} {N nL kc ks : Nat} {I : fM} {P : fN} {pc pc' : Nat} {lv : List (Nat × Value)} {st : List Value} {cc : ByteArray} {own : String} {Ts : List Cond} {ret : Option FieldType} (G : fC p s m args meth c cc own Ts A Γ N nL ret) {a b : Int} (hb9 : b = (i32 a).toInt) (hdg : decode cc pc = .ok (.i2l, 1)) (hpc : pc + 1 = pc') (k : fV p l e R s m args below meth c Q A Γ N nL kc ks I P pc' lv (.long (i64 b) :: st)) : fV p l e R s m args below meth c Q A Γ N nL kc ks I P pc lv (.int (i32 a) :: st) := by
  subst hpc
  have e1 : (i32 a).toInt64 = i64 b := by
    have := i32_l (a := (i32 a).toInt) (i32_r _)
    rw [i32_self] at this
    rw [hb9]
    exact this
  exact fun H locs ls hP hS hl => lv_i2l G.1 G.2.1 hdg e1 (k H locs ls hP hS hl)
theorem lg_cmp_same (x : Int64) : lg_cmp x x = i32 0 := by
  unfold lg_cmp
  rw [if_neg (fun z => by have z : x < x := z; rw [Int64.lt_iff_toInt_lt] at z; omega), if_pos rfl]
  rfl
theorem fV_lcmp_same {p : Program} {l : Launch} {e : Env} {R : Room} {s : State} {m : MethodId} {args : Array Value} {below : List Frame} {meth : Method} {c : Code} {Q : State → Prop} {A : Nat → Prop} {Γ : fG} {N nL kc ks : Nat} {I : fM} {P : fN} {pc pc' : Nat} {lv : List (Nat × Value)} {st : List Value} {cc : ByteArray} {own : String} {Ts : List Cond} {ret : Option FieldType} (G : fC p s m args meth c cc own Ts A Γ N nL ret) {x : Int64} (hdg : decode cc pc = .ok (.lcmp, 1)) (hpc : pc + 1 = pc') (k : fV p l e R s m args below meth c Q A Γ N nL kc ks I P pc' lv (.int (i32 0) :: st)) : fV p l e R s m args below meth c Q A Γ N nL kc ks I P pc lv (.long x :: .long x :: st) := by
  subst hpc
  exact fun H locs ls hP hS hl => W.lcmp G.1 G.2.1 hdg (by rw [lg_cmp_same]; exact k H locs ls hP hS hl)
/-- the digest -/
def dF (g : Int → Int) (h : Int) : Nat → Int
  | 0 => h
  | n + 1 => 31 * dF g h n + (i32 (g n)).toInt
def dW (w t : Int → Int → Int) (h : Int) : Nat → Int
  | 0 => h
  | n + 1 => dF (t n) (dF (w n) (dW w t h n) 8) 12
theorem dF_s {g : Int → Int} {h k : Int} (hk : 0 ≤ k) : dF g h (k + 1).toNat = 31 * dF g h k.toNat + (i32 (g k)).toInt := by
  obtain ⟨n, hn⟩ : ∃ n : Nat, k = n := ⟨k.toNat, by omega⟩
  subst hn
  rw [show ((n : Int) + 1).toNat = n + 1 by omega, show ((n : Int)).toNat = n by omega]
  rfl
theorem dW_s {w t : Int → Int → Int} {h k : Int} (hk : 0 ≤ k) : dW w t h (k + 1).toNat = dF (t k) (dF (w k) (dW w t h k.toNat) 8) 12 := by
  obtain ⟨n, hn⟩ : ∃ n : Nat, k = n := ⟨k.toNat, by omega⟩
  subst hn
  rw [show ((n : Int) + 1).toNat = n + 1 by omega, show ((n : Int)).toNat = n by omega]
  rfl
noncomputable def digX (I : fM) (P : fN) : Int := dF (qXShot I) (dW (qXWord I P) (qXLetter I P) (dF (qXCount I P) 7 5) (I 1 1).toNat) 10
set_option maxHeartbeats 4000000 in
set_option maxRecDepth 100000 in
theorem mL_low (l : Launch) (Γ : fG) {N : Nat} (hN : 214 ≤ N) (I : fM) (P : fN) (x n : Int) (h_n : 1 ≤ n ∧ n ≤ 2147483647) : fMet l yL_low wsL_low rmL_low Γ N [.int (i32 x), .int (i32 n)] I P (fE (some (.int (i32 (lo x n)))) I P) := by
  refine fMet_of (own := RL) (cc := cL_low) (maxL := 2) (ret := (some .int)) rfl (by decide +kernel) rfl (Nat.le_of_ble_eq_true rfl) ?_
  intro p e s m args below meth c G
  have hlb := lom_b x
  refine fV_lv (lv' := [(0, .int (i32 x)), (1, .int (i32 n))]) [0, 1] rfl ?_
  refine fV_iload_n (pc' := 1) G 0 dL_low_0 rfl rfl rfl ?_
  refine fV_ldc (a := 2147483647) (pc' := 3) G klL_low_7 dL_low_1 rfl ?_
  refine fV_iandr (t := lom x) (pc' := 4) G rfl dL_low_3 rfl ?_
  refine fV_iload_n (pc' := 5) G 1 dL_low_4 rfl rfl rfl ?_
  refine fV_irem (pc' := 6) G dL_low_5 rfl (by omega) (by omega) ?_
  refine fV_iret G dL_low_6 ?_
  exact fE_i (by rfl)
set_option maxHeartbeats 4000000 in
set_option maxRecDepth 100000 in
theorem mL_digest (l : Launch) (Γ : fG) {N : Nat} (hN : 214 ≤ N) (I : fM) (P : fN) (ho : xAll I P) : fMet l yL_digest wsL_digest rmL_digest Γ N [.ref (Γ.1 0)] I P (fE (some (.long (i64 (digX I P)))) I P) := by
  refine fMet_of (own := RL) (cc := cL_digest) (maxL := 5) (ret := (some .long)) rfl (by decide +kernel) rfl (Nat.le_of_ble_eq_true rfl) ?_
  intro p e s m args below meth c G
  obtain ⟨⟨⟨hv1, hv3, hv4, hvs⟩, hww, -⟩, hpa, hhs, -, h03, hl12⟩ := id ho
  have hc0 : qXCount I P 0 = I 1 1 := if_pos rfl
  refine fV_lv (lv' := [(0, .ref (Γ.1 0))]) [0] rfl ?_
  refine fV_ldc2 (a := 7) (pc' := 3) G klL_digest_8 rfl dL_digest_0 rfl ?_
  refine fV_lstore_n (lv' := [(1, .long (i64 7)), (0, .ref (Γ.1 0))]) (pc' := 4) G dL_digest_3 rfl (by decide) rfl rfl ?_
  refine fV_iconst (pc' := 5) G dL_digest_4 rfl ?_
  refine fV_istore_n (lv' := [(3, .int (i32 0)), (1, .long (i64 7)), (0, .ref (Γ.1 0))]) (pc' := 6) G dL_digest_5 rfl (by decide) rfl rfl ?_
  have la : ∀ (z : Nat) (i : Int) (h : Int), 0 ≤ i ∧ i ≤ 5 → h = dF (qXCount I P) 7 i.toNat → ((5 - i).toNat) = z → fV p l e rmL_digest s m args below meth c (MQ below (fQ Γ N (fE (some (.long (i64 (digX I P)))) I P)) args s 0 0 (fA Γ N)) (fA Γ N) Γ N 5 0 0 I P 6 [(0, .ref (Γ.1 0)), (3, .int (i32 i)), (1, .long (i64 h))] [] := by
    intro z
    induction z using Nat.strongRecOn with
    | _ z ih_la =>
      intro i h hi hh hz_la
      refine fV_iload_n (pc' := 7) G 1 dL_digest_6 rfl rfl rfl ?_
      refine fV_iconst (pc' := 8) G dL_digest_7 rfl ?_
      refine fV_icmp_ge (tgt := 30) (pc' := 11) G dL_digest_8 (by decide) rfl (by omega) (by decide) (fun c101 => ?_) (fun c101 => ?_)
      · refine fV_iconst (pc' := 31) G dL_digest_30 rfl ?_
        refine fV_istore_n (lv' := [(3, .int (i32 0)), (0, .ref (Γ.1 0)), (1, .long (i64 h))]) (pc' := 32) G dL_digest_31 rfl (by decide) rfl rfl ?_
        have lb : ∀ (z : Nat) (k : Int) (h2 : Int), 0 ≤ k ∧ k ≤ I 1 1 → h2 = dW (qXWord I P) (qXLetter I P) (dF (qXCount I P) 7 5) k.toNat → ((I 1 1 - k).toNat) = z → fV p l e rmL_digest s m args below meth c (MQ below (fQ Γ N (fE (some (.long (i64 (digX I P)))) I P)) args s 0 0 (fA Γ N)) (fA Γ N) Γ N 5 0 0 I P 32 [(0, .ref (Γ.1 0)), (3, .int (i32 k)), (1, .long (i64 h2))] [] := by
          intro z
          induction z using Nat.strongRecOn with
          | _ z ih_lb =>
            intro k h2 hk hh2 hz_lb
            refine fV_iload_n (pc' := 33) G 1 dL_digest_32 rfl rfl rfl ?_
            refine fV_aload_n (pc' := 34) G 0 dL_digest_33 rfl rfl rfl ?_
            refine fV_iconst (pc' := 35) G dL_digest_34 rfl ?_
            refine fV_callVf (st' := [.int (i32 (qXCount I P 0)), .int (i32 k)]) (n := 1) (k := 0) (K := 3) (As := [.int (i32 0)]) (rest := [.int (i32 k)]) (pc' := 38) G (mX3_count l Γ hN I P (xAll_ok ho) 0 (by omega)) kcL_digest_12 (by omega) rfl rfl rfl rfl (Nat.le_of_ble_eq_true rfl) (Nat.zero_le _) (Nat.zero_le _) dL_digest_35 rfl rfl ?_
            refine fV_icmp_ge (tgt := 109) (pc' := 41) G dL_digest_38 (by decide) rfl (by omega) (by omega) (fun c202 => ?_) (fun c202 => ?_)
            · refine fV_iconst (pc' := 110) G dL_digest_109 rfl ?_
              refine fV_istore_n (lv' := [(3, .int (i32 0)), (0, .ref (Γ.1 0)), (1, .long (i64 h2))]) (pc' := 111) G dL_digest_110 rfl (by decide) rfl rfl ?_
              have le : ∀ (z : Nat) (j : Int) (h5 : Int), 0 ≤ j ∧ j ≤ 10 → h5 = dF (qXShot I) (dW (qXWord I P) (qXLetter I P) (dF (qXCount I P) 7 5) (I 1 1).toNat) j.toNat → ((10 - j).toNat) = z → fV p l e rmL_digest s m args below meth c (MQ below (fQ Γ N (fE (some (.long (i64 (digX I P)))) I P)) args s 0 0 (fA Γ N)) (fA Γ N) Γ N 5 0 0 I P 111 [(0, .ref (Γ.1 0)), (3, .int (i32 j)), (1, .long (i64 h5))] [] := by
                intro z
                induction z using Nat.strongRecOn with
                | _ z ih_le =>
                  intro j h5 hj hh5 hz_le
                  refine fV_iload_n (pc' := 112) G 1 dL_digest_111 rfl rfl rfl ?_
                  refine fV_bipush (n := 10) (pc' := 114) G dL_digest_112 rfl rfl ?_
                  refine fV_icmp_ge (tgt := 136) (pc' := 117) G dL_digest_114 (by decide) rfl (by omega) (by decide) (fun c303 => ?_) (fun c303 => ?_)
                  · refine fV_lload_n (pc' := 137) G 2 dL_digest_136 rfl rfl rfl ?_
                    refine fV_lret G dL_digest_137 ?_
                    refine ⟨?_, rfl, rfl⟩
                    unfold digX
                    rw [hh5, show j = 10 by omega]
                    rfl
                  · refine fV_ldc2 (a := 31) (pc' := 120) G klL_digest_10 rfl dL_digest_117 rfl ?_
                    refine fV_lload_n (pc' := 121) G 2 dL_digest_120 rfl rfl rfl ?_
                    refine fV_lmul (pc' := 122) G dL_digest_121 rfl ?_
                    refine fV_aload_n (pc' := 123) G 0 dL_digest_122 rfl rfl rfl ?_
                    refine fV_iload_n (pc' := 124) G 1 dL_digest_123 rfl rfl rfl ?_
                    refine fV_callVf (st' := [.int (i32 (qXShot I j)), .long (i64 (31 * h5))]) (n := 1) (k := 0) (K := 3) (As := [.int (i32 j)]) (rest := [.long (i64 (31 * h5))]) (pc' := 127) G (mX3_shot l Γ hN I P (xAll_ok ho) j (by omega)) kcL_digest_25 (by omega) rfl rfl rfl rfl (Nat.le_of_ble_eq_true rfl) (Nat.zero_le _) (Nat.zero_le _) dL_digest_124 rfl rfl ?_
                    refine fV_i2lw (b := (i32 (qXShot I j)).toInt) (pc' := 128) G rfl dL_digest_127 rfl ?_
                    refine fV_ladd (pc' := 129) G dL_digest_128 rfl ?_
                    refine fV_lstore_n (lv' := [(1, .long (i64 ((31 * h5) + ((i32 (qXShot I j)).toInt)))), (0, .ref (Γ.1 0)), (3, .int (i32 j))]) (pc' := 130) G dL_digest_129 rfl (by decide) rfl rfl ?_
                    refine fV_iinc (lv' := [(3, .int (i32 (j + 1))), (1, .long (i64 ((31 * h5) + ((i32 (qXShot I j)).toInt)))), (0, .ref (Γ.1 0))]) (pc' := 133) G 2 dL_digest_130 rfl (by decide) rfl rfl ?_
                    refine fV_goto (tgt := 111) G dL_digest_133 (by decide) ?_
                    refine fV_lv (lv' := [(0, .ref (Γ.1 0)), (3, .int (i32 (j + 1))), (1, .long (i64 ((31 * h5) + ((i32 (qXShot I j)).toInt))))]) [2, 0, 1] rfl ?_
                    exact ih_le _ (by omega) (j + 1) ((31 * h5) + ((i32 (qXShot I j)).toInt)) (by omega) (by rw [dF_s (by omega), ← hh5]) rfl
              refine fV_lv (lv' := [(0, .ref (Γ.1 0)), (3, .int (i32 0)), (1, .long (i64 h2))]) [1, 0, 2] rfl ?_
              exact le _ 0 h2 (by omega) (by rw [hh2, show k = I 1 1 by omega]; rfl) rfl
            · refine fV_iconst (pc' := 42) G dL_digest_41 rfl ?_
              refine fV_istore (lv' := [(4, .int (i32 0)), (0, .ref (Γ.1 0)), (3, .int (i32 k)), (1, .long (i64 h2))]) (pc' := 44) G dL_digest_42 (by decide) rfl rfl ?_
              have lc : ∀ (z : Nat) (q : Int) (h3 : Int), 0 ≤ q ∧ q ≤ 8 → h3 = dF (qXWord I P k) (dW (qXWord I P) (qXLetter I P) (dF (qXCount I P) 7 5) k.toNat) q.toNat → ((8 - q).toNat) = z → fV p l e rmL_digest s m args below meth c (MQ below (fQ Γ N (fE (some (.long (i64 (digX I P)))) I P)) args s 0 0 (fA Γ N)) (fA Γ N) Γ N 5 0 0 I P 44 [(0, .ref (Γ.1 0)), (3, .int (i32 k)), (1, .long (i64 h3)), (4, .int (i32 q))] [] := by
                intro z
                induction z using Nat.strongRecOn with
                | _ z ih_lc =>
                  intro q h3 hq hh3 hz_lc
                  refine fV_iload (pc' := 46) G 3 dL_digest_44 rfl rfl ?_
                  refine fV_bipush (n := 8) (pc' := 48) G dL_digest_46 rfl rfl ?_
                  refine fV_icmp_ge (tgt := 72) (pc' := 51) G dL_digest_48 (by decide) rfl (by omega) (by decide) (fun c303 => ?_) (fun c303 => ?_)
                  · refine fV_iconst (pc' := 73) G dL_digest_72 rfl ?_
                    refine fV_istore (lv' := [(4, .int (i32 0)), (0, .ref (Γ.1 0)), (3, .int (i32 k)), (1, .long (i64 h3))]) (pc' := 75) G dL_digest_73 (by decide) rfl rfl ?_
                    have ld : ∀ (z : Nat) (q2 : Int) (h4 : Int), 0 ≤ q2 ∧ q2 ≤ 12 → h4 = dF (qXLetter I P k) (dF (qXWord I P k) (dW (qXWord I P) (qXLetter I P) (dF (qXCount I P) 7 5) k.toNat) 8) q2.toNat → ((12 - q2).toNat) = z → fV p l e rmL_digest s m args below meth c (MQ below (fQ Γ N (fE (some (.long (i64 (digX I P)))) I P)) args s 0 0 (fA Γ N)) (fA Γ N) Γ N 5 0 0 I P 75 [(0, .ref (Γ.1 0)), (3, .int (i32 k)), (1, .long (i64 h4)), (4, .int (i32 q2))] [] := by
                      intro z
                      induction z using Nat.strongRecOn with
                      | _ z ih_ld =>
                        intro q2 h4 hq2 hh4 hz_ld
                        refine fV_iload (pc' := 77) G 3 dL_digest_75 rfl rfl ?_
                        refine fV_bipush (n := 12) (pc' := 79) G dL_digest_77 rfl rfl ?_
                        refine fV_icmp_ge (tgt := 103) (pc' := 82) G dL_digest_79 (by decide) rfl (by omega) (by decide) (fun c404 => ?_) (fun c404 => ?_)
                        · refine fV_iinc (lv' := [(3, .int (i32 (k + 1))), (0, .ref (Γ.1 0)), (1, .long (i64 h4)), (4, .int (i32 q2))]) (pc' := 106) G 1 dL_digest_103 rfl (by decide) rfl rfl ?_
                          refine fV_goto (tgt := 32) G dL_digest_106 (by decide) ?_
                          refine fV_lv (lv' := [(0, .ref (Γ.1 0)), (3, .int (i32 (k + 1))), (1, .long (i64 h4))]) [1, 0, 2] rfl ?_
                          exact ih_lb _ (by omega) (k + 1) h4 (by omega) (by rw [dW_s (by omega), hh4, show q2 = 12 by omega]; rfl) rfl
                        · refine fV_ldc2 (a := 31) (pc' := 85) G klL_digest_10 rfl dL_digest_82 rfl ?_
                          refine fV_lload_n (pc' := 86) G 2 dL_digest_85 rfl rfl rfl ?_
                          refine fV_lmul (pc' := 87) G dL_digest_86 rfl ?_
                          refine fV_aload_n (pc' := 88) G 0 dL_digest_87 rfl rfl rfl ?_
                          refine fV_iload_n (pc' := 89) G 1 dL_digest_88 rfl rfl rfl ?_
                          refine fV_iload (pc' := 91) G 3 dL_digest_89 rfl rfl ?_
                          refine fV_callVf (st' := [.int (i32 (qXLetter I P k q2)), .long (i64 (31 * h4))]) (n := 2) (k := 0) (K := 3) (As := [.int (i32 k), .int (i32 q2)]) (rest := [.long (i64 (31 * h4))]) (pc' := 94) G (mX3_letter l Γ hN I P (xAll_ok ho) k q2 (by omega) (by omega)) kcL_digest_22 (by omega) rfl rfl rfl rfl (Nat.le_of_ble_eq_true rfl) (Nat.zero_le _) (Nat.zero_le _) dL_digest_91 rfl rfl ?_
                          refine fV_i2lw (b := (i32 (qXLetter I P k q2)).toInt) (pc' := 95) G rfl dL_digest_94 rfl ?_
                          refine fV_ladd (pc' := 96) G dL_digest_95 rfl ?_
                          refine fV_lstore_n (lv' := [(1, .long (i64 ((31 * h4) + ((i32 (qXLetter I P k q2)).toInt)))), (0, .ref (Γ.1 0)), (3, .int (i32 k)), (4, .int (i32 q2))]) (pc' := 97) G dL_digest_96 rfl (by decide) rfl rfl ?_
                          refine fV_iinc (lv' := [(4, .int (i32 (q2 + 1))), (1, .long (i64 ((31 * h4) + ((i32 (qXLetter I P k q2)).toInt)))), (0, .ref (Γ.1 0)), (3, .int (i32 k))]) (pc' := 100) G 3 dL_digest_97 rfl (by decide) rfl rfl ?_
                          refine fV_goto (tgt := 75) G dL_digest_100 (by decide) ?_
                          refine fV_lv (lv' := [(0, .ref (Γ.1 0)), (3, .int (i32 k)), (1, .long (i64 ((31 * h4) + ((i32 (qXLetter I P k q2)).toInt)))), (4, .int (i32 (q2 + 1)))]) [2, 3, 1, 0] rfl ?_
                          exact ih_ld _ (by omega) (q2 + 1) ((31 * h4) + ((i32 (qXLetter I P k q2)).toInt)) (by omega) (by rw [dF_s (by omega), ← hh4]) rfl
                    refine fV_lv (lv' := [(0, .ref (Γ.1 0)), (3, .int (i32 k)), (1, .long (i64 h3)), (4, .int (i32 0))]) [1, 2, 3, 0] rfl ?_
                    exact ld _ 0 h3 (by omega) (by rw [hh3, show q = 8 by omega]; rfl) rfl
                  · refine fV_ldc2 (a := 31) (pc' := 54) G klL_digest_10 rfl dL_digest_51 rfl ?_
                    refine fV_lload_n (pc' := 55) G 2 dL_digest_54 rfl rfl rfl ?_
                    refine fV_lmul (pc' := 56) G dL_digest_55 rfl ?_
                    refine fV_aload_n (pc' := 57) G 0 dL_digest_56 rfl rfl rfl ?_
                    refine fV_iload_n (pc' := 58) G 1 dL_digest_57 rfl rfl rfl ?_
                    refine fV_iload (pc' := 60) G 3 dL_digest_58 rfl rfl ?_
                    refine fV_callVf (st' := [.int (i32 (qXWord I P k q)), .long (i64 (31 * h3))]) (n := 2) (k := 0) (K := 3) (As := [.int (i32 k), .int (i32 q)]) (rest := [.long (i64 (31 * h3))]) (pc' := 63) G (mX3_word l Γ hN I P (xAll_ok ho) k q (by omega) (by omega)) kcL_digest_18 (by omega) rfl rfl rfl rfl (Nat.le_of_ble_eq_true rfl) (Nat.zero_le _) (Nat.zero_le _) dL_digest_60 rfl rfl ?_
                    refine fV_i2lw (b := (i32 (qXWord I P k q)).toInt) (pc' := 64) G rfl dL_digest_63 rfl ?_
                    refine fV_ladd (pc' := 65) G dL_digest_64 rfl ?_
                    refine fV_lstore_n (lv' := [(1, .long (i64 ((31 * h3) + ((i32 (qXWord I P k q)).toInt)))), (0, .ref (Γ.1 0)), (3, .int (i32 k)), (4, .int (i32 q))]) (pc' := 66) G dL_digest_65 rfl (by decide) rfl rfl ?_
                    refine fV_iinc (lv' := [(4, .int (i32 (q + 1))), (1, .long (i64 ((31 * h3) + ((i32 (qXWord I P k q)).toInt)))), (0, .ref (Γ.1 0)), (3, .int (i32 k))]) (pc' := 69) G 3 dL_digest_66 rfl (by decide) rfl rfl ?_
                    refine fV_goto (tgt := 44) G dL_digest_69 (by decide) ?_
                    refine fV_lv (lv' := [(0, .ref (Γ.1 0)), (3, .int (i32 k)), (1, .long (i64 ((31 * h3) + ((i32 (qXWord I P k q)).toInt)))), (4, .int (i32 (q + 1)))]) [2, 3, 1, 0] rfl ?_
                    exact ih_lc _ (by omega) (q + 1) ((31 * h3) + ((i32 (qXWord I P k q)).toInt)) (by omega) (by rw [dF_s (by omega), ← hh3]) rfl
              refine fV_lv (lv' := [(0, .ref (Γ.1 0)), (3, .int (i32 k)), (1, .long (i64 h2)), (4, .int (i32 0))]) [1, 2, 3, 0] rfl ?_
              exact lc _ 0 h2 (by omega) (by rw [hh2]; rfl) rfl
        refine fV_lv (lv' := [(0, .ref (Γ.1 0)), (3, .int (i32 0)), (1, .long (i64 h))]) [1, 0, 2] rfl ?_
        exact lb _ 0 h (by omega) (by rw [hh, show i = 5 by omega]; rfl) rfl
      · refine fV_ldc2 (a := 31) (pc' := 14) G klL_digest_10 rfl dL_digest_11 rfl ?_
        refine fV_lload_n (pc' := 15) G 2 dL_digest_14 rfl rfl rfl ?_
        refine fV_lmul (pc' := 16) G dL_digest_15 rfl ?_
        refine fV_aload_n (pc' := 17) G 0 dL_digest_16 rfl rfl rfl ?_
        refine fV_iload_n (pc' := 18) G 1 dL_digest_17 rfl rfl rfl ?_
        refine fV_callVf (st' := [.int (i32 (qXCount I P i)), .long (i64 (31 * h))]) (n := 1) (k := 0) (K := 3) (As := [.int (i32 i)]) (rest := [.long (i64 (31 * h))]) (pc' := 21) G (mX3_count l Γ hN I P (xAll_ok ho) i (by omega)) kcL_digest_12 (by omega) rfl rfl rfl rfl (Nat.le_of_ble_eq_true rfl) (Nat.zero_le _) (Nat.zero_le _) dL_digest_18 rfl rfl ?_
        refine fV_i2lw (b := (i32 (qXCount I P i)).toInt) (pc' := 22) G rfl dL_digest_21 rfl ?_
        refine fV_ladd (pc' := 23) G dL_digest_22 rfl ?_
        refine fV_lstore_n (lv' := [(1, .long (i64 ((31 * h) + ((i32 (qXCount I P i)).toInt)))), (0, .ref (Γ.1 0)), (3, .int (i32 i))]) (pc' := 24) G dL_digest_23 rfl (by decide) rfl rfl ?_
        refine fV_iinc (lv' := [(3, .int (i32 (i + 1))), (1, .long (i64 ((31 * h) + ((i32 (qXCount I P i)).toInt)))), (0, .ref (Γ.1 0))]) (pc' := 27) G 2 dL_digest_24 rfl (by decide) rfl rfl ?_
        refine fV_goto (tgt := 6) G dL_digest_27 (by decide) ?_
        refine fV_lv (lv' := [(0, .ref (Γ.1 0)), (3, .int (i32 (i + 1))), (1, .long (i64 ((31 * h) + ((i32 (qXCount I P i)).toInt))))]) [2, 0, 1] rfl ?_
        exact ih_la _ (by omega) (i + 1) ((31 * h) + ((i32 (qXCount I P i)).toInt)) (by omega) (by rw [dF_s (by omega), ← hh]) rfl
  refine fV_lv (lv' := [(0, .ref (Γ.1 0)), (3, .int (i32 0)), (1, .long (i64 7))]) [2, 0, 1] rfl ?_
  exact la _ 0 7 (by omega) rfl rfl
