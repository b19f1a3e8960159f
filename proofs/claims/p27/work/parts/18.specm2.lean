/-! SPEC M2: the reference's meeting, counts -/
theorem sOnB_lt {pct n : Int} {sh r : Int → Int} {f : Int} (hs : ∀ i, 0 ≤ i → i < n → 1 ≤ sh i ∧ sh i ≤ 3000) (h : sOnB pct n sh r f = true) : f < 4001 := by
  have h2 := of_decide_eq_true h
  have := sCutM_b (a := r 0) (k := 0) (by omega) hs
  omega
/-- the place where the reference's search ends -/
noncomputable abbrev sMetF (pct n : Int) (sh r q : Int → Int) : Int := sF (fun f => ¬ (sOnB pct n sh r f = true ∧ sOnB pct n sh q f = true) ∨ sMAB pct n sh r q f = true) (max (r 0) (q 0)) 4001
theorem no_both {a b : Bool} (h : a = false ∨ b = false) : ¬ (a = true ∧ b = true) := by
  rintro ⟨z1, z2⟩
  rcases h with h | h
  · rw [h] at z1; cases z1
  · rw [h] at z2; cases z2
theorem sMet_no {pct n : Int} {sh r q : Int → Int} {f : Int} (hw : max (r 0) (q 0) ≤ 4001) (h0 : max (r 0) (q 0) ≤ f) (hR : f ≤ sMetF pct n sh r q) (h : sOnB pct n sh r f = false ∨ sOnB pct n sh q f = false) : sMetM pct n sh r q = -19 := by
  have e := isF_hit (sF_is (c := fun f => ¬ (sOnB pct n sh r f = true ∧ sOnB pct n sh q f = true) ∨ sMAB pct n sh r q f = true) hw) h0 hR (Or.inl (no_both h))
  unfold sMetM
  rw [e, if_neg (no_both h)]
theorem sMet_hit {pct n : Int} {sh r q : Int → Int} {f : Int} (hw : max (r 0) (q 0) ≤ 4001) (h0 : max (r 0) (q 0) ≤ f) (hR : f ≤ sMetF pct n sh r q) (h1 : sOnB pct n sh r f = true) (h2 : sOnB pct n sh q f = true) (hm : sMAB pct n sh r q f = true) : sMetM pct n sh r q = f := by
  have e := isF_hit (sF_is (c := fun f => ¬ (sOnB pct n sh r f = true ∧ sOnB pct n sh q f = true) ∨ sMAB pct n sh r q f = true) hw) h0 hR (Or.inr hm)
  unfold sMetM
  rw [e, if_pos ⟨h1, h2⟩]
theorem sMet_step {pct n : Int} {sh r q : Int → Int} {f : Int} (hw : max (r 0) (q 0) ≤ 4001) (hR : f ≤ sMetF pct n sh r q) (h1 : sOnB pct n sh r f = true) (h2 : sOnB pct n sh q f = true) (hm : sMAB pct n sh r q f = false) (h9 : f < 4001) : f + 1 ≤ sMetF pct n sh r q := by
  refine isF_step (sF_is (c := fun f => ¬ (sOnB pct n sh r f = true ∧ sOnB pct n sh q f = true) ∨ sMAB pct n sh r q f = true) hw) hR h9 ?_
  rintro (z | z)
  · exact z ⟨h1, h2⟩
  · rw [hm] at z; cases z
theorem sMetM_b {pct n : Int} {sh r q : Int → Int} (hw : max (r 0) (q 0) ≤ 4001) (h0 : 0 ≤ max (r 0) (q 0)) : -19 ≤ sMetM pct n sh r q ∧ sMetM pct n sh r q ≤ 4001 := by
  have h := (sF_is (c := fun f => ¬ (sOnB pct n sh r f = true ∧ sOnB pct n sh q f = true) ∨ sMAB pct n sh r q f = true) hw).1
  unfold sMetM
  split <;> omega
/-- whether a word meets any other one that is put -/
def sMAny (c : Int → Prop) (n : Int) : Prop := ∃ i, 0 ≤ i ∧ i < n ∧ c i
noncomputable def sMAnyB (c : Int → Prop) (n : Int) : Bool := @decide (sMAny c n) (Classical.propDecidable _)
theorem sMAny_t {c : Int → Prop} {n i : Int} (h0 : 0 ≤ i) (h1 : i < n) (h : c i) : sMAnyB c n = true := by
  unfold sMAnyB
  exact @decide_eq_true _ (Classical.propDecidable _) ⟨i, h0, h1, h⟩
theorem sMAny_f {c : Int → Prop} {n : Int} (h : ∀ i, 0 ≤ i → i < n → ¬ c i) : sMAnyB c n = false := by
  unfold sMAnyB
  exact @decide_eq_false _ (Classical.propDecidable _) (fun ⟨i, h0, h1, h2⟩ => h i h0 h1 h2)
theorem sMAnyB_iff {c : Int → Prop} {n : Int} : sMAnyB c n = true ↔ sMAny c n := by
  unfold sMAnyB
  exact @decide_eq_true_iff _ (Classical.propDecidable _)
