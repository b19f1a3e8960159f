/-! LAW: its loop (rows laid by wip/whole/gen/con25.py) -/
set_option maxHeartbeats 4000000 in
set_option maxRecDepth 100000 in
theorem lawloop {p : Program} {l : Launch} {e : Env} {s : State} {m : MethodId} {b : Nat} {below : List Frame} {meth : Method} {c : Code} {Q : State → Prop} {A : Nat → Prop} {Γ : fG} {kc ks : Nat} {ret : Option FieldType} {L : Nat} {xs : Nat → Int32} (G : fC p s m #[Value.ref b] meth c cL_law RL wsL_law A Γ 220 4 ret) (hXS : va_X b L xs s s.heap) (hbl : b < s.heap.size) (hbA : ¬ A b) (hL : L ≤ 3072) (hkc : kc ≤ room_1.cells) (hks : ks ≤ room_1.slots) (stop : ∀ (J : fM) (Q2 : fN) (lv : List (Nat × Value)), fV p l e room_1 s m #[Value.ref b] below meth c Q A Γ 220 4 kc ks J Q2 832 lv []) : ∀ (n : Nat) (I : fM) (P : fN) (i : Int), Sim I P → 0 ≤ i → i ≤ (L : Int) → (L : Int) - i < (n : Int) → fV p l e room_1 s m #[Value.ref b] below meth c Q A Γ 220 4 kc ks I P 18 [(0, .ref b), (1, .ref (Γ.1 0)), (2, .ref (Γ.1 214)), (3, .int (i32 i))] [] := by
  intro n
  induction n with
  | zero => intro I P i S h0 h1 h2; exact absurd h2 (by omega)
  | succ n ih =>
    intro I P i S h0 h1 h2
    refine fV_iload_n (pc' := 19) G 3 dL_law_18 rfl rfl rfl ?_
    refine fV_aload_n (pc' := 20) G 0 dL_law_19 rfl rfl rfl ?_
    refine fV_slen (pc' := 21) G hXS hbl hbA (by omega) dL_law_20 rfl ?_
    refine fV_bipush (pc' := 23) G dL_law_21 rfl rfl ?_
    refine fV_isub (pc' := 24) G dL_law_23 rfl ?_
    refine fV_icmp_gt (tgt := 832) (pc' := 27) G dL_law_24 (by decide) rfl (by omega) (by omega) (fun _ => stop I P _) (fun hc => ?_)
    have hi : 0 ≤ i ∧ i + 5 < (L : Int) := by omega
    have next : ∀ (J : fM) (Q2 : fN), Sim J Q2 → fV p l e room_1 s m #[Value.ref b] below meth c Q A Γ 220 4 kc ks J Q2 826 [(0, .ref b), (1, .ref (Γ.1 0)), (2, .ref (Γ.1 214)), (3, .int (i32 i))] [] := by
      intro J Q2 S2
      refine fV_iinc (lv' := [(3, .int (i32 (i + 6))), (0, .ref b), (1, .ref (Γ.1 0)), (2, .ref (Γ.1 214))]) (pc' := 829) G 3 dL_law_826 rfl (by decide) rfl rfl ?_
      refine fV_goto (tgt := 18) G dL_law_829 (by decide) ?_
      refine fV_lv (lv' := [(0, .ref b), (1, .ref (Γ.1 0)), (2, .ref (Γ.1 214)), (3, .int (i32 (i + 6)))]) [1, 2, 3, 0] rfl ?_
      exact ih J Q2 (i + 6) S2 (by omega) (by omega) (by omega)
    obtain ⟨y, hy⟩ : ∃ v : Int, v = (xs i.toNat).toInt := ⟨_, rfl⟩
    obtain ⟨t, ht⟩ : ∃ v : Int, v = (i32 y &&& i32 31).toInt := ⟨_, rfl⟩
    have bt : -2147483648 ≤ t ∧ t ≤ 2147483647 := by rw [ht]; exact i32_r _
    refine fV_aload_n (pc' := 28) G 0 dL_law_27 rfl rfl rfl ?_
    refine fV_iload_n (pc' := 29) G 3 dL_law_28 rfl rfl rfl ?_
    refine fV_sld (q := i) (v := y) (pc' := 30) G hXS hbl hbA (by omega) (by omega) hy dL_law_29 rfl ?_
    refine fV_bipush (pc' := 32) G dL_law_30 rfl rfl ?_
    refine fV_iandr (t := t) (pc' := 33) G ht dL_law_32 rfl ?_
    by_cases c0 : t = 0
    · refine fV_tableIn (off := 111) (tgt := 144) G dL_law_33 bt (by omega) (by omega) (by rw [c0]; rfl) (by decide) ?_
      exact lawc_0 G hXS hbl hbA hL hkc hks S hi next
    by_cases c1 : t = 1
    · refine fV_tableIn (off := 174) (tgt := 207) G dL_law_33 bt (by omega) (by omega) (by rw [c1]; rfl) (by decide) ?_
      exact lawc_1 G hXS hbl hbA hL hkc hks S hi next
    by_cases c2 : t = 2
    · refine fV_tableIn (off := 197) (tgt := 230) G dL_law_33 bt (by omega) (by omega) (by rw [c2]; rfl) (by decide) ?_
      exact lawc_2 G hXS hbl hbA hL hkc hks S hi next
    by_cases c3 : t = 3
    · refine fV_tableIn (off := 240) (tgt := 273) G dL_law_33 bt (by omega) (by omega) (by rw [c3]; rfl) (by decide) ?_
      exact lawc_3 G hXS hbl hbA hL hkc hks S hi next
    by_cases c4 : t = 4
    · refine fV_tableIn (off := 263) (tgt := 296) G dL_law_33 bt (by omega) (by omega) (by rw [c4]; rfl) (by decide) ?_
      exact lawc_4 G hXS hbl hbA hL hkc hks S hi next
    by_cases c5 : t = 5
    · refine fV_tableIn (off := 286) (tgt := 319) G dL_law_33 bt (by omega) (by omega) (by rw [c5]; rfl) (by decide) ?_
      exact lawc_5 G hXS hbl hbA hL hkc hks S hi next
    by_cases c6 : t = 6
    · refine fV_tableIn (off := 309) (tgt := 342) G dL_law_33 bt (by omega) (by omega) (by rw [c6]; rfl) (by decide) ?_
      exact lawc_6 G hXS hbl hbA hL hkc hks S hi next
    by_cases c7 : t = 7
    · refine fV_tableIn (off := 332) (tgt := 365) G dL_law_33 bt (by omega) (by omega) (by rw [c7]; rfl) (by decide) ?_
      exact lawc_7 G hXS hbl hbA hL hkc hks S hi next
    by_cases c8 : t = 8
    · refine fV_tableIn (off := 345) (tgt := 378) G dL_law_33 bt (by omega) (by omega) (by rw [c8]; rfl) (by decide) ?_
      exact lawc_8 G hXS hbl hbA hL hkc hks S hi next
    by_cases c9 : t = 9
    · refine fV_tableIn (off := 358) (tgt := 391) G dL_law_33 bt (by omega) (by omega) (by rw [c9]; rfl) (by decide) ?_
      exact lawc_9 G hXS hbl hbA hL hkc hks S hi next
    by_cases c10 : t = 10
    · refine fV_tableIn (off := 401) (tgt := 434) G dL_law_33 bt (by omega) (by omega) (by rw [c10]; rfl) (by decide) ?_
      exact lawc_10 G hXS hbl hbA hL hkc hks S hi next
    by_cases c11 : t = 11
    · refine fV_tableIn (off := 424) (tgt := 457) G dL_law_33 bt (by omega) (by omega) (by rw [c11]; rfl) (by decide) ?_
      exact lawc_11 G hXS hbl hbA hL hkc hks S hi next
    by_cases c12 : t = 12
    · refine fV_tableIn (off := 437) (tgt := 470) G dL_law_33 bt (by omega) (by omega) (by rw [c12]; rfl) (by decide) ?_
      exact lawc_12 G hXS hbl hbA hL hkc hks S hi next
    by_cases c13 : t = 13
    · refine fV_tableIn (off := 450) (tgt := 483) G dL_law_33 bt (by omega) (by omega) (by rw [c13]; rfl) (by decide) ?_
      exact lawc_13 G hXS hbl hbA hL hkc hks S hi next
    by_cases c14 : t = 14
    · refine fV_tableIn (off := 473) (tgt := 506) G dL_law_33 bt (by omega) (by omega) (by rw [c14]; rfl) (by decide) ?_
      exact lawc_14 G hXS hbl hbA hL hkc hks S hi next
    by_cases c15 : t = 15
    · refine fV_tableIn (off := 506) (tgt := 539) G dL_law_33 bt (by omega) (by omega) (by rw [c15]; rfl) (by decide) ?_
      exact lawc_15 G hXS hbl hbA hL hkc hks S hi next
    by_cases c16 : t = 16
    · refine fV_tableIn (off := 539) (tgt := 572) G dL_law_33 bt (by omega) (by omega) (by rw [c16]; rfl) (by decide) ?_
      exact lawc_16 G hXS hbl hbA hL hkc hks S hi next
    by_cases c17 : t = 17
    · refine fV_tableIn (off := 562) (tgt := 595) G dL_law_33 bt (by omega) (by omega) (by rw [c17]; rfl) (by decide) ?_
      exact lawc_17 G hXS hbl hbA hL hkc hks S hi next
    by_cases c18 : t = 18
    · refine fV_tableIn (off := 605) (tgt := 638) G dL_law_33 bt (by omega) (by omega) (by rw [c18]; rfl) (by decide) ?_
      exact lawc_18 G hXS hbl hbA hL hkc hks S hi next
    by_cases c19 : t = 19
    · refine fV_tableIn (off := 648) (tgt := 681) G dL_law_33 bt (by omega) (by omega) (by rw [c19]; rfl) (by decide) ?_
      exact lawc_19 G hXS hbl hbA hL hkc hks S hi next
    by_cases c20 : t = 20
    · refine fV_tableIn (off := 671) (tgt := 704) G dL_law_33 bt (by omega) (by omega) (by rw [c20]; rfl) (by decide) ?_
      exact lawc_20 G hXS hbl hbA hL hkc hks S hi next
    by_cases c21 : t = 21
    · refine fV_tableIn (off := 704) (tgt := 737) G dL_law_33 bt (by omega) (by omega) (by rw [c21]; rfl) (by decide) ?_
      exact lawc_21 G hXS hbl hbA hL hkc hks S hi next
    by_cases c22 : t = 22
    · refine fV_tableIn (off := 727) (tgt := 760) G dL_law_33 bt (by omega) (by omega) (by rw [c22]; rfl) (by decide) ?_
      exact lawc_22 G hXS hbl hbA hL hkc hks S hi next
    by_cases c23 : t = 23
    · refine fV_tableIn (off := 770) (tgt := 803) G dL_law_33 bt (by omega) (by omega) (by rw [c23]; rfl) (by decide) ?_
      exact lawc_23 G hXS hbl hbA hL hkc hks S hi next
    refine fV_tableOut (tgt := 826) G dL_law_33 bt (by omega) (by decide) ?_
    exact next I P S
