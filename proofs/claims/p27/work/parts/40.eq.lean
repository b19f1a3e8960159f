/-! EQ: the class's words and the reference's rows: the same frames, cells, meetings -/
theorem sF_c {c d : Int → Prop} {a b : Int} (h : ∀ i, a ≤ i → i < b → (c i ↔ d i)) : sF c a b = sF d a b := by
  rcases Int.lt_or_le a b with z | z
  · have k := sF_is (c := d) (a := a) (b := b) (by omega)
    exact sF_eq ⟨k.1, fun i h1 h2 q => k.2.1 i h1 h2 ((h i h1 (by have := k.1; omega)).mp q), fun q => (h _ k.1.1 q).mpr (k.2.2 q)⟩
  · rw [sF_nil z, sF_nil z]
/-- a word's fields, an array's row -/
def wPl (r q : Int → Int) : Prop := r 1 = q 6 ∧ r 2 = q 0 ∧ r 3 = q 1 ∧ r 4 = q 2 ∧ r 5 = q 3 ∧ ((r 6 = 0 ∧ q 4 = -1) ∨ (r 6 = 1 ∧ q 4 ≠ -1 ∧ q 4 = r 7 ∧ q 5 = r 8))
/-- the same numbers -/
def sNu (pct n : Int) (sh th : Int → Int) : Prop := (50 ≤ pct ∧ pct ≤ 400) ∧ (0 ≤ n ∧ n ≤ 10) ∧ ∀ i, 0 ≤ i → i < n → sh i = th i ∧ 1 ≤ th i ∧ th i ≤ 3000
theorem row_eq {r q : Int → Int} {pct f : Int} (h : wPl r q) (hp : r 6 = 1) : sRowX pct r f = sRowM pct q f := by
  obtain ⟨h1, h2, h3, h4, h5, h6⟩ := h
  unfold sRowX sRowM sMvW
  rw [h5, show f + 1 - (r 2 + r 3 + r 4) = f - (q 0 + q 1 + q 2) + 1 by omega, show r 7 = q 4 by omega]
  (repeat' split) <;> omega
theorem col_eq {r q : Int → Int} {pct f : Int} (h : wPl r q) (hp : r 6 = 1) : sColX pct r f = sColM pct q f := by
  obtain ⟨h1, h2, h3, h4, h5, h6⟩ := h
  unfold sColX sColM sMvW
  rw [h5, show f + 1 - (r 2 + r 3 + r 4) = f - (q 0 + q 1 + q 2) + 1 by omega, show r 8 = q 5 by omega]
  (repeat' split) <;> omega
theorem sStl_lt {pct c i : Int} (hp : 50 ≤ pct ∧ pct ≤ 400) (hc : c ≤ 40) (h1 : 1 ≤ i) (hi : i ≤ 5000) : i < sStl pct c ↔ sMv pct i < c := by
  have k := sF_is (c := fun i => c ≤ sMv pct i) (a := 1) (b := 80) (by decide)
  unfold sStl
  obtain ⟨S, hS⟩ : ∃ S, S = sF (fun i => c ≤ sMv pct i) 1 80 := ⟨_, rfl⟩
  rw [← hS] at k ⊢
  obtain ⟨⟨k0, k1⟩, k2, k3⟩ := k
  constructor
  · intro z
    have : ¬ c ≤ sMv pct i := k2 i h1 z
    omega
  · intro z
    rcases Int.lt_or_le i S with q | q
    · exact q
    · exfalso
      by_cases e : S < 80
      · have z1 : c ≤ sMv pct S := k3 e
        have z2 := sMv_mono hp q hi
        omega
      · have z1 := sMv_80 hp
        have z2 := sMv_mono hp (show 80 ≤ i by omega) hi
        omega
theorem vis_core {r q : Int → Int} {pct f : Int} (h : wPl r q) (hw : mWv q) (hp : r 6 = 1) (hpc : 50 ≤ pct ∧ pct ≤ 400) (hf : f ≤ 4900) : f < r 2 + r 3 + r 4 + (if r 5 = 0 then 0 else sStl pct (sLeaveR r) - 1) ↔ ¬ (q 3 = 0 ∧ q 0 + q 1 + q 2 ≤ f) ∧ (0 ≤ sRowM pct q f ∧ sRowM pct q f ≤ 7) ∧ sColM pct q f < 40 ∧ 0 < sColM pct q f + q 6 := by
  obtain ⟨h1, h2, h3, h4, h5, h6⟩ := h
  obtain ⟨w1, w2, w3, w4, w5, w6, w7, w8⟩ := hw
  have hq4 : q 4 ≠ -1 := by omega
  have w8 := w8 hq4
  have hmb := sMv_b (i := f - (q 0 + q 1 + q 2) + 1) hpc (by omega)
  have hS := (sF_is (c := fun i => sLeaveR r ≤ sMv pct i) (a := 1) (b := 80) (by decide)).1
  have hlv : 1 ≤ sLeaveR r ∧ sLeaveR r ≤ 40 := by
    unfold sLeaveR
    (repeat' split) <;> omega
  have hst : f < r 2 + r 3 + r 4 + (sStl pct (sLeaveR r) - 1) ↔ sMv pct (f - (q 0 + q 1 + q 2) + 1) < sLeaveR r := by
    by_cases z : f - (q 0 + q 1 + q 2) + 1 < 1
    · rw [sMv_1 z]
      have : sStl pct (sLeaveR r) = sF (fun i => sLeaveR r ≤ sMv pct i) 1 80 := rfl
      omega
    · have := sStl_lt (c := sLeaveR r) (i := f - (q 0 + q 1 + q 2) + 1) hpc hlv.2 (by omega) (by omega)
      omega
  unfold sRowM sColM sMvW
  obtain ⟨mv, hmv⟩ : ∃ mv, mv = sMv pct (f - (q 0 + q 1 + q 2) + 1) := ⟨_, rfl⟩
  rw [← hmv] at hst hmb ⊢
  have hway : q 3 = 0 ∨ q 3 = 1 ∨ q 3 = 2 ∨ q 3 = 3 ∨ q 3 = 4 := by omega
  rcases hway with e | e | e | e | e
  · rw [if_pos (by omega), if_neg (by omega), if_neg (by omega), if_neg (by omega), if_neg (by omega)]
    omega
  · rw [if_neg (by omega), hst, if_neg (by omega), if_neg (by omega), if_pos e]
    unfold sLeaveR
    rw [if_pos (by omega)]
    omega
  · rw [if_neg (by omega), hst, if_neg (by omega), if_neg (by omega), if_neg (by omega), if_pos e]
    unfold sLeaveR
    rw [if_neg (by omega), if_pos (by omega)]
    omega
  · rw [if_neg (by omega), hst, if_pos e, if_neg (by omega), if_neg (by omega)]
    unfold sLeaveR
    rw [if_neg (by omega), if_neg (by omega), if_pos (by omega)]
    omega
  · rw [if_neg (by omega), hst, if_neg (by omega), if_pos e, if_neg (by omega), if_neg (by omega)]
    unfold sLeaveR
    rw [if_neg (by omega), if_neg (by omega), if_neg (by omega)]
    omega
/-- the end of a word's time, in words of its row -/
theorem gone_b {r q : Int → Int} {pct n : Int} {sh th : Int → Int} (h : wPl r q) (hw : mWv q) (hp : r 6 = 1) (hn : sNu pct n sh th) : q 0 < sGone pct n sh r ∧ sGone pct n sh r ≤ 2300 := by
  obtain ⟨h1, h2, h3, h4, h5, h6⟩ := h
  obtain ⟨w1, w2, w3, w4, w5, w6, w7, w8⟩ := hw
  obtain ⟨n1, n2, n3⟩ := hn
  have hS := (sF_is (c := fun i => sLeaveR r ≤ sMv pct i) (a := 1) (b := 80) (by decide)).1
  have hk := sF_is (c := fun i => r 2 < sh i) (a := 0) (b := n) n2.1
  unfold sGone sStl
  by_cases z : sF (fun i => r 2 < sh i) 0 n < n
  · rw [if_pos z]
    have z1 : r 2 < sh (sF (fun i => r 2 < sh i) 0 n) := hk.2.2 z
    split <;> omega
  · rw [if_neg z]
    split <;> omega
theorem vis_on {r q : Int → Int} {pct n f : Int} {sh th : Int → Int} (h : wPl r q) (hw : mWv q) (hn : sNu pct n sh th) (hf : f ≤ 4900) : sVis pct n sh r f ↔ sOnM pct n th q f := by
  by_cases hp : r 6 = 1
  · have hc := vis_core h hw hp hn.1 hf
    have hg := gone_b h hw hp hn
    have h2 := h.2.1
    have hq4 : q 4 ≠ -1 := by have := h.2.2.2.2.2; omega
    have ek : sF (fun i => r 2 < sh i) 0 n = sF (fun i => q 0 < th i) 0 n := sF_c (fun i i0 i1 => by have := (hn.2.2 i i0 i1).1; omega)
    have hk := (sF_is (c := fun i => r 2 < sh i) (a := 0) (b := n) hn.2.1.1).1
    have eg : f < sGone pct n sh r ↔ f < r 2 + r 3 + r 4 + (if r 5 = 0 then 0 else sStl pct (sLeaveR r) - 1) ∧ f < sCutM n th (q 0) 0 := by
      have hg2 := hg
      unfold sGone at hg2 ⊢
      unfold sCutM
      rw [← ek]
      by_cases z : sF (fun i => r 2 < sh i) 0 n < n
      · rw [if_pos z] at hg2 ⊢
        rw [if_pos z]
        have := (hn.2.2 _ hk.1 z).1
        omega
      · rw [if_neg z] at hg2 ⊢
        rw [if_neg z]
        omega
    show r 6 = 1 ∧ r 2 ≤ f ∧ f < sGone pct n sh r ↔ q 4 ≠ -1 ∧ q 0 ≤ f ∧ f < sCutM n th (q 0) 0 ∧ ¬ (q 3 = 0 ∧ q 0 + q 1 + q 2 ≤ f) ∧ (0 ≤ sRowM pct q f ∧ sRowM pct q f ≤ 7) ∧ sColM pct q f < 40 ∧ 0 < sColM pct q f + q 6
    rw [eg, hc, h2]
    constructor
    · rintro ⟨a1, a2, a3, a4⟩
      exact ⟨hq4, a2, a4, a3⟩
    · rintro ⟨a1, a2, a3, a4⟩
      exact ⟨hp, a2, a4, a3⟩
  · have hq4 : q 4 = -1 := by have := h.2.2.2.2.2; omega
    exact ⟨fun z => absurd z.1 hp, fun z => absurd hq4 z.1⟩
theorem onB_iff {q : Int → Int} {pct n f : Int} {th : Int → Int} : sOnB pct n th q f = true ↔ sOnM pct n th q f := by
  unfold sOnB
  exact decide_eq_true_iff
theorem vis_onB {r q : Int → Int} {pct n f : Int} {sh th : Int → Int} (h : wPl r q) (hw : mWv q) (hn : sNu pct n sh th) (hf : f ≤ 4900) : sVis pct n sh r f ↔ sOnB pct n th q f = true := (vis_on h hw hn hf).trans onB_iff.symm
/-- the frames of a word on the screen -/
theorem on_put {r q : Int → Int} {pct n f : Int} {sh th : Int → Int} (h : wPl r q) (hw : mWv q) (hn : sNu pct n sh th) (hf : f ≤ 4900) (hp : r 6 = 1) : sOnB pct n th q f = true ↔ (q 0 ≤ f ∧ f < sGone pct n sh r) := by
  rw [← vis_onB h hw hn hf]
  show r 6 = 1 ∧ r 2 ≤ f ∧ f < sGone pct n sh r ↔ _
  rw [h.2.1]
  exact ⟨fun z => z.2, fun z => ⟨hp, z⟩⟩
theorem on_not {q : Int → Int} {pct n f : Int} {th : Int → Int} (hq : q 4 = -1) : ¬ sOnB pct n th q f = true := fun z => (onB_iff.mp z).1 hq
theorem mab_iff {r q r2 q2 : Int → Int} {pct n f : Int} {th : Int → Int} (h : wPl r q) (k : wPl r2 q2) (hp : r 6 = 1) (kp : r2 6 = 1) (h1 : sOnB pct n th q f = true) (k1 : sOnB pct n th q2 f = true) : sMAB pct n th q q2 f = true ↔ sShare pct r r2 f := by
  unfold sMAB
  rw [@decide_eq_true_iff _ (Classical.propDecidable _)]
  show (sOnB pct n th q f = true ∧ sOnB pct n th q2 f = true ∧ sRowM pct q f = sRowM pct q2 f) ∧ max (max (sColM pct q f) (sColM pct q2 f)) 0 < min (min (sColM pct q f + q 6) (sColM pct q2 f + q2 6)) 40 ↔ sRowX pct r f = sRowX pct r2 f ∧ max 0 (max (sColX pct r f) (sColX pct r2 f)) < min 40 (min (sColX pct r f + r 1) (sColX pct r2 f + r2 1))
  rw [row_eq h hp, row_eq k kp, col_eq h hp, col_eq k kp, h.1, k.1]
  constructor
  · rintro ⟨⟨-, -, z1⟩, z2⟩
    exact ⟨z1, by omega⟩
  · rintro ⟨z1, z2⟩
    exact ⟨⟨h1, k1, z1⟩, by omega⟩
theorem met_eq {r q r2 q2 : Int → Int} {pct n : Int} {sh th : Int → Int} (h : wPl r q) (hw : mWv q) (k : wPl r2 q2) (kw : mWv q2) (hn : sNu pct n sh th) : sMeet pct n sh r r2 = sMetM pct n th q q2 := by
  by_cases hb : r 6 = 1 ∧ r2 6 = 1
  · obtain ⟨hp, kp⟩ := hb
    have g1 := gone_b h hw hp hn
    have g2 := gone_b k kw kp hn
    have w0 := hw.2.1
    have w1 := kw.2.1
    obtain ⟨A, hA⟩ : ∃ A, A = max (q 0) (q2 0) := ⟨_, rfl⟩
    obtain ⟨E, hE⟩ : ∃ E, E = min (sGone pct n sh r) (sGone pct n sh r2) := ⟨_, rfl⟩
    have on1 : ∀ f, A ≤ f → f < E → sOnB pct n th q f = true ∧ sOnB pct n th q2 f = true := fun f f0 f1 => ⟨(on_put h hw hn (by omega) hp).mpr (by omega), (on_put k kw hn (by omega) kp).mpr (by omega)⟩
    have off1 : ∀ f, E ≤ f → f ≤ 4001 → ¬ (sOnB pct n th q f = true ∧ sOnB pct n th q2 f = true) := fun f f0 f1 z => by
      have z1 := (on_put h hw hn (by omega) hp).mp z.1
      have z2 := (on_put k kw hn (by omega) kp).mp z.2
      omega
    unfold sMeet
    rw [if_pos ⟨hp, kp⟩, h.2.1, k.2.1, ← hA, ← hE]
    obtain ⟨F, hF⟩ : ∃ F, F = sF (fun f => sShare pct r r2 f) A E := ⟨_, rfl⟩
    rw [← hF]
    by_cases hAE : A < E
    · have kF := sF_is (c := fun f => sShare pct r r2 f) (a := A) (b := E) (by omega)
      rw [← hF] at kF
      obtain ⟨⟨f0, f1⟩, f2, f3⟩ := kF
      by_cases hFE : F < E
      · have eG : sF (fun f => ¬ (sOnB pct n th q f = true ∧ sOnB pct n th q2 f = true) ∨ sMAB pct n th q q2 f = true) (max (q 0) (q2 0)) 4001 = F := by
          rw [← hA]
          refine sF_eq ⟨⟨f0, by omega⟩, fun i i0 i1 z => ?_, fun _ => Or.inr ?_⟩
          · have o := on1 i i0 (by omega)
            rcases z with z | z
            · exact z o
            · exact f2 i i0 i1 ((mab_iff h k hp kp o.1 o.2).mp z)
          · have o := on1 F f0 hFE
            exact (mab_iff h k hp kp o.1 o.2).mpr (f3 hFE)
        unfold sMetM
        rw [eG, if_pos hFE]
        exact (@if_pos _ (Classical.propDecidable _) (on1 F f0 hFE) _ _ _).symm
      · have eG : sF (fun f => ¬ (sOnB pct n th q f = true ∧ sOnB pct n th q2 f = true) ∨ sMAB pct n th q q2 f = true) (max (q 0) (q2 0)) 4001 = E := by
          rw [← hA]
          refine sF_eq ⟨⟨by omega, by omega⟩, fun i i0 i1 z => ?_, fun _ => Or.inl (off1 E (by omega) (by omega))⟩
          have o := on1 i i0 (by omega)
          rcases z with z | z
          · exact z o
          · exact f2 i i0 (by omega) ((mab_iff h k hp kp o.1 o.2).mp z)
        unfold sMetM
        rw [eG, if_neg hFE]
        exact (@if_neg _ (Classical.propDecidable _) (off1 E (by omega) (by omega)) _ _ _).symm
    · have eF : F = A := by rw [hF]; exact sF_nil (by omega)
      have eG : sF (fun f => ¬ (sOnB pct n th q f = true ∧ sOnB pct n th q2 f = true) ∨ sMAB pct n th q q2 f = true) (max (q 0) (q2 0)) 4001 = A := by
        rw [← hA]
        exact sF_here (by omega) (Or.inl (off1 A (by omega) (by omega)))
      unfold sMetM
      rw [eG, if_neg (by omega)]
      exact (@if_neg _ (Classical.propDecidable _) (off1 A (by omega) (by omega)) _ _ _).symm
  · rw [sMeet_no hb]
    have hno : ∀ f, ¬ (sOnB pct n th q f = true ∧ sOnB pct n th q2 f = true) := fun f z => by
      have h6 := h.2.2.2.2.2
      have k6 := k.2.2.2.2.2
      by_cases e : r 6 = 1
      · exact on_not (show q2 4 = -1 by omega) z.2
      · exact on_not (show q 4 = -1 by omega) z.1
    unfold sMetM
    exact (@if_neg _ (Classical.propDecidable _) (hno _) _ _ _).symm
/-- the last frame -/
theorem last_eq {r q : Int → Int} {pct n : Int} {sh th : Int → Int} (h : wPl r q) (hw : mWv q) (hn : sNu pct n sh th) (hp : r 6 = 1) : sF (fun f => ¬ sOnB pct n th q (f + 1) = true) (q 0) 4001 = sGone pct n sh r - 1 := by
  have g1 := gone_b h hw hp hn
  have w0 := hw.2.1
  refine sF_eq ⟨by omega, fun i i0 i1 z => z ((on_put h hw hn (by omega) hp).mpr (by omega)), fun _ z => ?_⟩
  have := (on_put h hw hn (by omega) hp).mp z
  omega
