/-! MITEM: the reference's array after an item -/
theorem rWord_eq {M : fM} {a l f sp h w : Int} (h0 : 0 ≤ M 215 0) : fcpy (mMake M l f sp h w) 218 a 215 (13 + 19 * M 215 0 + 7) l 215 = rWord (M 218) (M 215) a l f sp h w := by
  funext b
  by_cases hb : 13 + 19 * M 215 0 + 7 ≤ b ∧ b < 13 + 19 * M 215 0 + 7 + l
  · rw [fcpy_at hb]
    unfold rWord mMake
    rw [if_pos hb, fup_k (by decide), fup_k (by decide), fup_k (by decide), fup_k (by decide), fup_k (by decide), fup_k (by decide), fup_k (by decide), fup_k (by decide)]
  · rw [fcpy_o (by omega)]
    unfold rWord mMake
    rw [if_neg hb]
    by_cases z0 : b = 0
    · subst z0
      rw [fup_s, if_pos rfl]
    rw [fup_j z0, if_neg z0]
    by_cases z1 : b = 13 + 19 * M 215 0 + 0
    · rw [fup_j (by omega), fup_j (by omega), fup_j (by omega), fup_j (by omega), fup_j (by omega), if_pos z1, z1, fup_s]
    rw [if_neg z1]
    by_cases z2 : b = 13 + 19 * M 215 0 + 1
    · rw [fup_j (by omega), fup_j (by omega), fup_j (by omega), fup_j (by omega), if_pos z2, z2, fup_s]
    rw [if_neg z2]
    by_cases z3 : b = 13 + 19 * M 215 0 + 2
    · rw [fup_j (by omega), fup_j (by omega), fup_j (by omega), if_pos z3, z3, fup_s]
    rw [if_neg z3]
    by_cases z4 : b = 13 + 19 * M 215 0 + 3
    · rw [fup_j (by omega), fup_j (by omega), if_pos z4, z4, fup_s]
    rw [if_neg z4]
    by_cases z5 : b = 13 + 19 * M 215 0 + 4
    · rw [fup_j (by omega), if_pos z5, z5, fup_s]
    rw [if_neg z5]
    by_cases z6 : b = 13 + 19 * M 215 0 + 5
    · rw [if_pos z6, z6, fup_s]
    rw [if_neg z6]
    by_cases z7 : b = 13 + 19 * M 215 0 + 6
    · rw [fup_j z6, fup_j z5, fup_j z4, fup_j z3, fup_j z2, fup_j z1, if_pos z7, z7, fup_s]
    rw [if_neg z7, fup_j z6, fup_j z5, fup_j z4, fup_j z3, fup_j z2, fup_j z1, fup_j z7]
theorem rShot_eq {M : fM} {f : Int} : fup (fIns M 215 3 (M 215 1) (pIns (fun i => M 215 (3 + i)) f (M 215 1).toNat) f) 215 1 (M 215 1 + 1) 215 = rShot (M 215) f := by
  funext b
  unfold rShot
  by_cases z : b = 1
  · subst z
    rw [fup_s, if_pos rfl]
  · rw [fup_j z, if_neg z]
    unfold fIns
    simp only [true_and]
theorem qM_has {M : fM} {f : Int} (h : 0 ≤ M 215 1 ∧ M 215 1 ≤ 10) : (qMShotOf M f = -19 ↔ ¬ hasS (M 215) f) ∧ -19 ≤ qMShotOf M f ∧ qMShotOf M f ≤ 10 := by
  have k := sF_is (c := fun i => M 215 (3 + i) = f) (a := 0) (b := M 215 1) h.1
  obtain ⟨⟨k0, k1⟩, k2, k3⟩ := k
  unfold qMShotOf
  split
  · rename_i z
    refine ⟨⟨fun q => absurd q (by omega), fun q => absurd ⟨_, k0, z, k3 z⟩ q⟩, by omega, by omega⟩
  · rename_i z
    refine ⟨⟨fun _ q => ?_, fun _ => rfl⟩, by decide, by decide⟩
    obtain ⟨i, i0, i1, i2⟩ := q
    exact k2 i i0 (by omega) i2
theorem rdI_tr {I J K : fM} {T : Int → Int} {n : Int} {r : PI} (h : rdO I J) (k : rdI J T n r K) : rdI I T n r K := by
  have e5 : J 215 = I 215 := h.1 215 (by decide)
  cases r with
  | inl p => exact ⟨k.1, k.2.1, rdO_tr h k.2.2⟩
  | inr r =>
    cases r with
    | inl x =>
      obtain ⟨a, l, f, sp, hh, w, e2⟩ := x
      obtain ⟨k1, k2, k3, k4, k5, k6⟩ := k
      exact ⟨k1, k2, by rw [k3, e5], fun a ha hb => (k4 a ha hb).trans (h.1 a ha), fun b hb => (k5 b hb).trans (h.2 b hb), k6⟩
    | inr x =>
      obtain ⟨f, e2⟩ := x
      obtain ⟨k1, k2, k3, k4, k5, k6⟩ := k
      exact ⟨k1, k2, by rw [k3, e5], fun a ha hb => (k4 a ha hb).trans (h.1 a ha), fun b hb => (k5 b hb).trans (h.2 b hb), k6⟩
/-- the error is where the present token begins -/
theorem rdI_e {I J : fM} {T : Int → Int} {n e p : Int} (h : rdT J T n e) (hp : tS T n e = p) (h11 : J 214 11 = 1) (ho : rdO I J) : rdI I T n (.inl p) J := ⟨h11, h.2.2.2.1.trans hp, ho⟩
theorem rdT_w {J : fM} {T : Int → Int} {n e x : Int} (h : rdT J T n e) : rdT (fup J 214 11 x) T n e := rdT_o h (fup_ne (by decide)) (fun b h1 h2 => fup_j (by omega))
/-- the same but for scratch and the parser's fields -/
def rdZ (I J : fM) : Prop := (∀ a : Nat, a ≠ 214 → a ≠ 216 → a ≠ 219 → J a = I a) ∧ ∀ b : Int, (b < 7 ∨ 11 < b) → J 214 b = I 214 b
theorem rdZ_act {I J : fM} (h : rdZ I J) : rdZ (mAct I) (mAct J) := by
  have e4 : J 214 4 = I 214 4 := h.2 4 (by decide)
  have e5 : J 215 = I 215 := h.1 215 (by decide) (by decide) (by decide)
  have e7 : J 217 = I 217 := h.1 217 (by decide) (by decide) (by decide)
  refine ⟨fun a h1 h2 h3 => ?_, fun b hb => ?_⟩
  · by_cases z : a = 217
    · subst z
      funext b
      unfold mAct
      rw [e4]
      split
      · unfold fup fcpy
        simp only [e5, e7]
      · unfold fup fcpy
        simp only [e5, e7]
    · rw [mAct_o z h1, mAct_o z h1, h.1 a h1 h2 h3]
  · by_cases z : b = 4
    · subst z
      unfold mAct
      rw [e4]
      split
      · rw [fup_s, fup_s]
      · rw [fup_s, fup_s]
    · rw [mAct_4 z, mAct_4 z]
      exact h.2 b hb
theorem fxch_a {I : fM} {n : Int} {a : Nat} (h5 : a ≠ 215) (h6 : a ≠ 216) : fxch I n a = I a := by
  funext b
  unfold fxch
  rw [if_neg (fun z => h5 z.1), if_neg (fun z => h6 z.1)]
theorem rdZ_x {I J : fM} (h6 : ∀ b, 0 ≤ b → b < 241 → J 216 b = I 215 b) (h5 : ∀ b, (b < 0 ∨ 241 ≤ b) → J 215 b = I 215 b) (ho : ∀ a : Nat, a ≠ 214 → a ≠ 215 → a ≠ 216 → J a = I a) (hf : ∀ b : Int, (b < 7 ∨ 11 < b) → J 214 b = I 214 b) : rdZ I (fxch J 241) := by
  refine ⟨fun a h1 h2 _ => ?_, fun b hb => ?_⟩
  · by_cases e : a = 215
    · subst e
      funext b
      unfold fxch
      by_cases hb : 0 ≤ b ∧ b < 241
      · rw [if_pos ⟨rfl, hb⟩]
        exact h6 b hb.1 hb.2
      · rw [if_neg (fun z => hb z.2), if_neg (fun z => absurd z.1 (by decide))]
        exact h5 b (by omega)
    · rw [fxch_a e h2, ho a h1 e h2]
  · rw [fxch_a (by decide) (by decide)]
    exact hf b hb
theorem pItem_12 {T s : Int → Int} {n e : Int} {x} (h : pItem T n s e = .inr (.inl x)) : s 0 < 12 := by
  unfold pItem at h
  split at h
  · rename_i z; exact z.2
  · split at h
    · unfold pShot at h
      (repeat' split at h) <;> cases h
    · cases h
theorem pItem_10 {T s : Int → Int} {n e : Int} {x} (h : pItem T n s e = .inr (.inr x)) : s 1 < 10 ∧ ¬ hasS s x.1 := by
  unfold pItem at h
  split at h
  · unfold pWord at h
    (repeat' split at h) <;> cases h
  · split at h
    · rename_i z
      refine ⟨z.2, ?_⟩
      unfold pShot at h
      split at h
      · rename_i z3
        split at h
        · cases h
          intro z2
          rw [hasSB_iff.mpr z2] at z3
          cases z3.2
        · cases h
      · cases h
    · cases h
theorem rWord_out {T s : Int → Int} {a l f sp h w b : Int} (h0 : 0 ≤ s 0 ∧ s 0 < 12) (hl : l ≤ 12) (hb : b < 0 ∨ 241 ≤ b) : rWord T s a l f sp h w b = s b := by
  unfold rWord
  rw [if_neg (by omega), if_neg (by omega), if_neg (by omega), if_neg (by omega), if_neg (by omega), if_neg (by omega), if_neg (by omega), if_neg (by omega), if_neg (by omega)]
theorem rWord_01 {T s : Int → Int} {a l f sp h w : Int} (h0 : 0 ≤ s 0) : rWord T s a l f sp h w 0 = s 0 + 1 ∧ rWord T s a l f sp h w 1 = s 1 := by
  unfold rWord
  refine ⟨?_, ?_⟩
  · rw [if_neg (by omega), if_pos rfl]
  · rw [if_neg (by omega), if_neg (by omega), if_neg (by omega), if_neg (by omega), if_neg (by omega), if_neg (by omega), if_neg (by omega), if_neg (by omega), if_neg (by omega)]
theorem rdI_use {J K : fM} {T t : Int → Int} {n e i : Int} {R : Int × (Int → Int)} (he : 0 ≤ e ∧ e ≤ n) (hv : mOkr t) (hi : 0 ≤ i ∧ i ≤ 22) (hk : tK T n e ≠ 0) (hR : R = pLoad T n (23 - i).toNat t e i) (hJ : J 215 = t) (h : rdI J T n (pItem T n t e) K) :
    ∃ t2 e2 p2, K 215 = t2 ∧ mOkr t2 ∧ (∀ b, (b < 0 ∨ 241 ≤ b) → t2 b = t b) ∧ (∀ a : Nat, a ≠ 214 → a ≠ 215 → K a = J a) ∧ (∀ b : Int, (b < 7 ∨ 11 < b) → K 214 b = J 214 b) ∧ ((K 214 11 = 0 ∧ rdT K T n e2 ∧ (0 ≤ e2 ∧ e2 ≤ n) ∧ t2 0 + t2 1 = t 0 + t 1 + 1 ∧ R = pLoad T n (23 - (i + 1)).toNat t2 e2 (i + 1)) ∨ (K 214 11 = 1 ∧ K 214 8 = p2 ∧ (0 ≤ p2 ∧ p2 ≤ n) ∧ R = (-1000 - p2, t2))) := by
  rw [pLoad_s hi, if_neg hk] at hR
  have v0 := hv.1.1
  have v1 := hv.1.2.1
  cases hp : pItem T n t e with
  | inl p =>
    rw [hp] at h hR
    obtain ⟨h1, h2, h3⟩ := h
    exact ⟨t, 0, p, (h3.1 215 (by decide)).trans hJ, hv, fun _ _ => rfl, fun a ha _ => h3.1 a ha, h3.2, Or.inr ⟨h1, h2, pItem_p he hp, hR⟩⟩
  | inr r =>
    cases r with
    | inl x =>
      have h12 := pItem_12 hp
      obtain ⟨a, l, f, sp, hh, w, e2⟩ := x
      rw [hp] at h hR
      obtain ⟨h1, h2, h3, h4, h5, h6, h7, h8, h9, h10, h11⟩ := h
      rw [hJ] at h3
      have q := rWord_01 (T := T) (a := a) (l := l) (f := f) (sp := sp) (h := hh) (w := w) v0.1
      exact ⟨_, e2, 0, h3, mOkr_word hv h12 h6 h7 h8 h9 h10, fun b hb => rWord_out ⟨v0.1, h12⟩ h6.2 hb, h4, h5, Or.inl ⟨h1, h2, h11, by omega, hR⟩⟩
    | inr x =>
      have h10 := pItem_10 hp
      obtain ⟨f, e2⟩ := x
      rw [hp] at h hR
      obtain ⟨h1, h2, h3, h4, h5, h6, h7⟩ := h
      rw [hJ] at h3
      have q1 : rShot t f 1 = t 1 + 1 := rShot_1
      have q0 : rShot t f 0 = t 0 := rShot_o (by omega) (by decide) v1.1
      exact ⟨_, e2, 0, h3, mOkr_shot hv h10.1 h6, fun b hb => rShot_o (by omega) (by omega) v1.1, h4, h5, Or.inl ⟨h1, h2, h7, by omega, hR⟩⟩
