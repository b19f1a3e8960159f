/-! SPEC M: what the reference's reads answer, in words of its array -/
/-- the reference's numbers: words, shots, percent, the shots' frames -/
def mSv (I : fM) : Prop := (0 ≤ I 215 0 ∧ I 215 0 ≤ 12) ∧ (0 ≤ I 215 1 ∧ I 215 1 ≤ 10) ∧ (50 ≤ I 215 2 ∧ I 215 2 ≤ 400) ∧ ∀ i, 0 ≤ i → i < I 215 1 → 1 ≤ I 215 (3 + i) ∧ I 215 (3 + i) ≤ 3000
/-- a word's row in the reference's array -/
abbrev mR (I : fM) (w : Int) : Int → Int := fun q => I 215 (13 + 19 * w + q)
def mWv (r : Int → Int) : Prop := (1 ≤ r 6 ∧ r 6 ≤ 12) ∧ (0 ≤ r 0 ∧ r 0 ≤ 2000) ∧ (1 ≤ r 1 ∧ r 1 ≤ 60) ∧ (0 ≤ r 2 ∧ r 2 ≤ 60) ∧ (0 ≤ r 3 ∧ r 3 ≤ 4) ∧ (-1 ≤ r 4 ∧ r 4 ≤ 7) ∧ (-1 ≤ r 5 ∧ r 5 ≤ 40) ∧ (r 4 ≠ -1 → 0 ≤ r 5 ∧ r 5 + r 6 ≤ 40)
def sMvW (pct : Int) (r : Int → Int) (f : Int) : Int := sMv pct (f - (r 0 + r 1 + r 2) + 1)
def sRowM (pct : Int) (r : Int → Int) (f : Int) : Int := r 4 + (if r 3 = 3 then - sMvW pct r f else if r 3 = 4 then sMvW pct r f else 0)
def sColM (pct : Int) (r : Int → Int) (f : Int) : Int := r 5 + (if r 3 = 1 then - sMvW pct r f else if r 3 = 2 then sMvW pct r f else 0)
/-- the frame of the first shot from place k on that ends a word that begins in a -/
noncomputable def sCutM (n : Int) (sh : Int → Int) (a k : Int) : Int := if sF (fun i => a < sh i) k n < n then sh (sF (fun i => a < sh i) k n) else 4001
theorem sF_here {c : Int → Prop} {a b : Int} (h : a < b) (hc : c a) : sF c a b = a := sF_eq ⟨⟨by omega, by omega⟩, fun i h1 h2 => by omega, fun _ => hc⟩
theorem sF_next {c : Int → Prop} {a b : Int} (h : a < b) (hc : ¬ c a) : sF c a b = sF c (a + 1) b := by
  have k := sF_is (c := c) (a := a + 1) (b := b) (by omega)
  refine sF_eq ⟨⟨by have := k.1; omega, k.1.2⟩, fun i h1 h2 => ?_, k.2.2⟩
  by_cases q : i = a
  · rw [q]; exact hc
  · exact k.2.1 i (by omega) h2
theorem sF_nil {c : Int → Prop} {a b : Int} (h : b ≤ a) : sF c a b = a := by
  unfold sF
  rw [show (b - a).toNat = 0 by omega]
  rfl
theorem sCutM_hit {n : Int} {sh : Int → Int} {a k : Int} (h : k < n) (hc : a < sh k) : sCutM n sh a k = sh k := by
  unfold sCutM
  rw [sF_here (c := fun i => a < sh i) h hc, if_pos h]
theorem sCutM_next {n : Int} {sh : Int → Int} {a k : Int} (h : k < n) (hc : ¬ a < sh k) : sCutM n sh a k = sCutM n sh a (k + 1) := by
  unfold sCutM
  rw [sF_next (c := fun i => a < sh i) h hc]
theorem sCutM_nil {n : Int} {sh : Int → Int} {a k : Int} (h : n ≤ k) : sCutM n sh a k = 4001 := by
  unfold sCutM
  rw [sF_nil h, if_neg (by omega)]
theorem sCutM_b {n : Int} {sh : Int → Int} {a k : Int} (hk : 0 ≤ k) (hs : ∀ i, 0 ≤ i → i < n → 1 ≤ sh i ∧ sh i ≤ 3000) : 1 ≤ sCutM n sh a k ∧ sCutM n sh a k ≤ 4001 := by
  unfold sCutM
  split
  · rename_i h
    rcases Int.lt_or_le k n with q | q
    · have := (sF_is (c := fun i => a < sh i) (a := k) (b := n) (by omega)).1
      have := hs _ (by omega) h
      omega
    · rw [sF_nil q] at h; omega
  · omega
/-- whether a word is on the screen in a frame -/
abbrev sOnM (pct n : Int) (sh r : Int → Int) (f : Int) : Prop := r 4 ≠ -1 ∧ r 0 ≤ f ∧ f < sCutM n sh (r 0) 0 ∧ ¬ (r 3 = 0 ∧ r 0 + r 1 + r 2 ≤ f) ∧ (0 ≤ sRowM pct r f ∧ sRowM pct r f ≤ 7) ∧ sColM pct r f < 40 ∧ 0 < sColM pct r f + r 6
noncomputable def sOnB (pct n : Int) (sh r : Int → Int) (f : Int) : Bool := decide (sOnM pct n sh r f)
theorem sRowM_b {r : Int → Int} {pct f : Int} (hp : 50 ≤ pct ∧ pct ≤ 400) (hw : mWv r) (hf : f ≤ 4900) : -200000 ≤ sRowM pct r f ∧ sRowM pct r f ≤ 200000 := by
  obtain ⟨h1, h2, h3, h4, h5, h6, h7, h8⟩ := hw
  have := sMv_b (i := f - (r 0 + r 1 + r 2) + 1) hp (by omega)
  unfold sRowM sMvW
  (repeat' split) <;> omega
theorem sColM_b {r : Int → Int} {pct f : Int} (hp : 50 ≤ pct ∧ pct ≤ 400) (hw : mWv r) (hf : f ≤ 4900) : -200000 ≤ sColM pct r f ∧ sColM pct r f ≤ 200000 := by
  obtain ⟨h1, h2, h3, h4, h5, h6, h7, h8⟩ := hw
  have := sMv_b (i := f - (r 0 + r 1 + r 2) + 1) hp (by omega)
  unfold sColM sMvW
  (repeat' split) <;> omega
theorem sMvW_b {r : Int → Int} {pct f : Int} (hp : 50 ≤ pct ∧ pct ≤ 400) (hw : mWv r) (hf : f ≤ 4900) : 0 ≤ sMvW pct r f ∧ sMvW pct r f ≤ 32768 := by
  obtain ⟨h1, h2, h3, h4, h5, h6, h7, h8⟩ := hw
  exact sMv_b (i := f - (r 0 + r 1 + r 2) + 1) hp (by omega)
abbrev sMeetAt (pct n : Int) (sh r q : Int → Int) (f : Int) : Prop := (sOnB pct n sh r f = true ∧ sOnB pct n sh q f = true ∧ sRowM pct r f = sRowM pct q f) ∧ max (max (sColM pct r f) (sColM pct q f)) 0 < min (min (sColM pct r f + r 6) (sColM pct q f + q 6)) 40
noncomputable def sMAB (pct n : Int) (sh r q : Int → Int) (f : Int) : Bool := @decide (sMeetAt pct n sh r q f) (Classical.propDecidable _)
/-- the first frame in which two words meet; none -/
noncomputable def sMetM (pct n : Int) (sh r q : Int → Int) : Int :=
  @ite _ (sOnB pct n sh r (sF (fun f => ¬ (sOnB pct n sh r f = true ∧ sOnB pct n sh q f = true) ∨ sMAB pct n sh r q f = true) (max (r 0) (q 0)) 4001) = true ∧ sOnB pct n sh q (sF (fun f => ¬ (sOnB pct n sh r f = true ∧ sOnB pct n sh q f = true) ∨ sMAB pct n sh r q f = true) (max (r 0) (q 0)) 4001) = true) (Classical.propDecidable _) (sF (fun f => ¬ (sOnB pct n sh r f = true ∧ sOnB pct n sh q f = true) ∨ sMAB pct n sh r q f = true) (max (r 0) (q 0)) 4001) (-19)
/-- sums of small numbers -/
def sSum (g : Int → Int) (n : Int) : Int := (List.range n.toNat).foldl (fun (a : Int) (i : Nat) => a + g (i : Int)) 0
theorem sSum_0 (g : Int → Int) : sSum g 0 = 0 := rfl
theorem sSum_s {g : Int → Int} {n : Int} (h : 0 ≤ n) : sSum g (n + 1) = sSum g n + g n := by
  unfold sSum
  rw [show (n + 1).toNat = n.toNat + 1 by omega, List.range_succ, List.foldl_append]
  show _ + g (n.toNat : Int) = _
  rw [show ((n.toNat : Nat) : Int) = n by omega]
theorem sSum_b {g : Int → Int} (hg : ∀ i, 0 ≤ g i ∧ g i ≤ 1) : ∀ n : Nat, 0 ≤ sSum g n ∧ sSum g n ≤ n := by
  intro n
  induction n with
  | zero => exact ⟨Int.le_refl _, Int.le_refl _⟩
  | succ n ih =>
    have e : sSum g ((n + 1 : Nat) : Int) = sSum g n + g n := by rw [Int.natCast_succ]; exact sSum_s (by omega)
    have := hg n
    rw [e]
    omega
theorem sSum_bi {g : Int → Int} (hg : ∀ i, 0 ≤ g i ∧ g i ≤ 1) {n : Int} (h : 0 ≤ n) : 0 ≤ sSum g n ∧ sSum g n ≤ n := by
  have := sSum_b hg n.toNat
  rw [show ((n.toNat : Nat) : Int) = n by omega] at this
  exact this
