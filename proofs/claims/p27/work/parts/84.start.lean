/-! START: the memory that the two constructors leave -/
def zI : fM := fun a b => if fkd a = 0 ∧ b = 4 then 100 else if a = 215 ∧ b = 2 then 100 else 0
def zP : fN := fun a j => if fkd a = 11 then a + 5 + 2 * min j.toNat 11 else if a = 61 then 62 + 30 * min j.toNat 4 else 0
theorem zI_0 {a : Nat} (h : fkd a ≠ 0) (h2 : a ≠ 215) : zI a = fun _ => 0 := by
  funext b
  unfold zI
  rw [if_neg (fun z => h z.1), if_neg (fun z => h2 z.1)]
theorem zI_215 : zI 215 = rup (fun _ : Int => (0 : Int)) 2 100 := by
  funext b
  unfold zI rup
  rw [if_neg (fun z => absurd z.1 (by decide))]
  by_cases hb : b = 2
  · rw [if_pos ⟨rfl, hb⟩, if_pos hb]
  · rw [if_neg (fun z => hb z.2), if_neg hb]
theorem zI_s4 {a : Nat} (h : fkd a = 0) : zI a 4 = 100 := if_pos ⟨h, rfl⟩
theorem zI_sn {a : Nat} {b : Int} (h : a ≠ 215) (hb : b ≠ 4) : zI a b = 0 := by
  unfold zI
  rw [if_neg (fun z => hb z.2), if_neg (fun z => h z.1)]
theorem zI_M {b : Int} (hb : b ≠ 2) : zI 215 b = 0 := by
  rw [zI_215]
  exact if_neg hb
theorem zP_w {a : Nat} (h : fkd a = 11) (j : Int) : zP a j = a + 5 + 2 * min j.toNat 11 := if_pos h
theorem zP_h (j : Int) : zP 61 j = 62 + 30 * min j.toNat 4 := by
  unfold zP
  rw [if_neg (by decide), if_pos rfl]
theorem zP_s : fPa zP := by
  intro sc hs
  obtain ⟨-, -, h1, -⟩ := fSc_k hs
  refine ⟨fun w w0 w1 => ⟨min w.toNat 11, by omega, by rw [zP_w h1]⟩, fun v w v0 v1 w0 w1 e => ?_⟩
  rw [zP_w h1, zP_w h1] at e
  omega
theorem zP_hs : fHs zP := by
  refine ⟨fun w w0 w1 => ⟨min w.toNat 4, by omega, zP_h w⟩, fun v w v0 v1 w0 w1 e => ?_⟩
  rw [zP_h, zP_h] at e
  omega
theorem zSim : Sim zI zP := by
  have e3 : zI 0 3 = 0 := zI_sn (by decide) (by decide)
  have e12 : zI 212 1 = 0 := zI_sn (by decide) (by decide)
  have m0 : zI 215 0 = 0 := zI_M (by decide)
  have m1 : zI 215 1 = 0 := zI_M (by decide)
  have m2 : zI 215 2 = 100 := by rw [zI_215]; exact if_pos rfl
  refine ⟨⟨⟨?_, ?_, ?_, fun i h0 h1 => ?_, fun w h0 h1 => ?_⟩, ⟨⟨?_, ?_, ?_, fun i h0 h1 => ?_⟩, fun w h0 h1 => ?_⟩, fun i j h0 h1 h2 => ?_⟩, ⟨?_, ?_, ?_⟩, fun h h0 h1 => ?_, ⟨?_, ?_, ?_, fun i h0 h1 => ?_⟩, zP_s, zP_hs, ?_⟩
  · rw [m0]; exact zI_sn (by decide) (by decide)
  · rw [m1]; exact zI_sn (by decide) (by decide)
  · rw [m2]; exact zI_s4 (by decide)
  · rw [m1] at h1; exact absurd h1 (by omega)
  · rw [m0] at h1; exact absurd h1 (by omega)
  · rw [m0]; decide
  · rw [m1]; decide
  · rw [m2]; decide
  · rw [m1] at h1; exact absurd h1 (by omega)
  · rw [m0] at h1; exact absurd h1 (by omega)
  · rw [m1] at h2; exact absurd h2 (by omega)
  · rw [e3]; exact (congrFun (zI_0 (a := 214) (by decide) (by decide)) 4).symm
  · rw [e3]; decide
  · rw [e3]; decide
  · rw [e3] at h1; exact absurd h1 (by omega)
  · rw [zI_0 (by decide) (by decide), zI_0 (by decide) (by decide)]
  · rw [e12]; exact (zI_sn (by decide) (by decide)).symm
  · rw [e12]; decide
  · rw [e12] at h1; exact absurd h1 (by omega)
  · exact zI_sn (by decide) (by decide)
/-- what a cell holds, its references beyond its length apart -/
def eqv (e1 e2 : va_E) : Prop := ∀ (D : va_G) (cl : List vw_C) (a : Nat) (H : Heap), va_at D cl (a, e1) H → va_at D cl (a, e2) H
theorem eqv_r {e1 e2 : va_E} (h : e1 = e2) : eqv e1 e2 := fun _ _ _ _ k => h ▸ k
theorem eqv_q {cA : ClassId} {n : Nat} {f g : Nat → Option Nat} (h : ∀ j, j < n → f j = g j) : eqv (.inl (cA, n, .inr (.inr (.inr (.inr f))))) (.inl (cA, n, .inr (.inr (.inr (.inr g))))) := by
  intro D cl a H k
  have e : arrV cA n (fun j => va_rf (f j)) = arrV cA n (fun j => va_rf (g j)) := by
    have e2 : (fun j : Fin n => va_rf (f j.val)) = fun j : Fin n => va_rf (g j.val) := funext fun j => by rw [h j.val j.isLt]
    unfold arrV
    rw [e2]
  show H[a]? = some (arrV cA n (fun j => va_rf (g j)))
  rw [← e]
  exact k
theorem fSc_sb {k : Nat} (h0 : k ≠ 0) (h1 : k ≠ 61) (h2 : k < 212) : fSc (sb k) := by
  unfold sb
  split
  · exact Or.inl rfl
  · split
    · exact Or.inr (Or.inl rfl)
    · exact Or.inr (Or.inr ⟨(k - 62) / 30, by omega, rfl⟩)
theorem nxt_of_sb {k : Nat} (h0 : k ≠ 0) (h1 : k ≠ 61) (h2 : k < 212) : sb k + 30 ≤ 212 := (fSc_k (fSc_sb h0 h1 h2)).1
/-- the world that the constructor leaves -/
def zE (Γ : fG) (k : Nat) : va_E := vE Γ (finV Γ.1) (hE Γ 5 Γ.1) Γ.1 k
theorem zE_sc {Γ : fG} {sc o : Nat} (hs : fSc sc) (ho : o < 30) (hsb : ∀ i, i < 30 → sb (sc + i) = sc) : eqv (sE Γ 12 (fun i => Γ.1 (sc + i)) o) (flay Γ zI zP (sc + o)) := by
  obtain ⟨h212, k0, k1, k2, k3, k4, k5⟩ := fSc_k hs
  have hn : sc + o ≠ 215 := by omega
  have hn0 : sc ≠ 215 := by omega
  have ho9 : o = 0 ∨ o = 1 ∨ o = 2 ∨ o = 3 ∨ o = 4 ∨ o = 5 ∨ 6 ≤ o := by omega
  rcases ho9 with rfl | rfl | rfl | rfl | rfl | rfl | h6
  · refine eqv_r ?_
    show sE Γ 12 (fun i => Γ.1 (sc + i)) 0 = fen Γ (fkd sc) sc (zI sc) (zP sc)
    rw [k0]
    have e : fen Γ 0 sc (zI sc) (zP sc) = .inr (0, [.ref (Γ.1 (sc + 1)), .int (i32 (zI sc 1)), .ref (Γ.1 (sc + 2)), .int (i32 (zI sc 3)), .int (i32 (zI sc 4)), .ref (Γ.1 (sc + 3)), .ref (Γ.1 (sc + 5))]) := rfl
    rw [e, zI_s4 k0, zI_sn hn0 (by decide), zI_sn hn0 (by decide)]
    rfl
  · unfold flay
    rw [k1]
    refine eqv_q (fun j hj => ?_)
    rw [if_pos hj, zP_w k1, show sc + 1 + 5 + 2 * min (j : Int).toNat 11 = sc + (6 + 2 * j) by omega]
  · refine eqv_r ?_
    unfold flay
    rw [k2, zI_0 (by omega) hn]
    rfl
  · refine eqv_r ?_
    unfold flay
    rw [k3, zI_0 (by omega) hn]
    rfl
  · refine eqv_r ?_
    unfold flay
    rw [k4, zI_0 (by omega) hn]
    rfl
  · refine eqv_r ?_
    unfold flay
    rw [k5, zI_0 (by omega) hn]
    rfl
  · refine eqv_r ?_
    obtain ⟨-, w1, w2⟩ := fSc_w hs ((o - 6) / 2) (by omega)
    rw [sE_6 h6]
    by_cases hp : o % 2 = 0
    · rw [if_pos hp]
      rw [show sc + 6 + 2 * ((o - 6) / 2) = sc + o by omega] at w1
      unfold flay
      rw [w1, zI_0 (by omega) hn]
      rfl
    · rw [if_neg hp]
      rw [show sc + 6 + 2 * ((o - 6) / 2) + 1 = sc + o by omega] at w2
      unfold flay
      rw [w2, zI_0 (by omega) hn]
      rfl
theorem zE_at {Γ : fG} {k : Nat} (h : k < 214) : eqv (zE Γ k) (flay Γ zI zP k) := by
  unfold zE
  by_cases h0 : k = 0
  · subst h0
    exact eqv_r rfl
  by_cases h1 : k = 61
  · subst h1
    rw [vE_61]
    refine eqv_q (fun j hj => ?_)
    rw [if_pos hj, zP_h, show 62 + 30 * min (j : Int).toNat 4 = 62 + 30 * j by omega]
  by_cases h2 : k < 212
  · rw [vE_s h0 h1 h2]
    obtain ⟨b1, b2⟩ := sbk_b h0 h1
    have hs := fSc_sb h0 h1 h2
    have hq := zE_sc (Γ := Γ) hs (show k - sb k < 30 by omega) (fun i hi => by
      rcases hs with e | e | ⟨j, hj, e⟩
      · rw [e]; unfold sb; rw [if_pos (by omega)]
      · rw [e]; unfold sb; rw [if_neg (by omega), if_pos (by omega)]
      · rw [e]; unfold sb; rw [if_neg (by omega), if_neg (by omega)]; omega)
    rw [show sb k + (k - sb k) = k by omega] at hq
    exact hq
  · have h3 : k = 212 ∨ k = 213 := by omega
    rcases h3 with rfl | rfl
    · refine eqv_r ?_
      unfold flay
      rw [zI_0 (by decide) (by decide)]
      rfl
    · refine eqv_r ?_
      unfold flay
      rw [zI_0 (by decide) (by decide)]
      rfl
/-- the addresses of the world -/
def zG (g : fG) (u : Nat → Nat) : fG := (u, g.2)
theorem zW {g : fG} {u : Nat → Nat} : cW 214 u (vE g (finV u) (hE g 5 u) u) = cW 214 (zG g u).1 (zE (zG g u)) := rfl
theorem zStart {g : fG} {u : Nat → Nat} {H : Heap} {A : Nat → Prop} (hP : va_P g.2.2.1 vwCl (cW 214 u (vE g (finV u) (hE g 5 u) u)) H) (hD : va_D A (cW 214 u (vE g (finV u) (hE g 5 u) u))) : va_P (zG g u).2.2.1 vwCl (fws (zG g u) 214 zI zP) H ∧ finj (zG g u) 214 ∧ ∀ k, k < 214 → A ((zG g u).1 k) := by
  rw [zW] at hP hD
  refine ⟨fun k q hk => ?_, fun i j hi hj e => hD.1 i j _ _ (cW_get hi) (cW_get hj) e, fun k hk => hD.2 k _ (cW_get hk)⟩
  obtain ⟨hl, -⟩ := fws_mem hk
  rw [fws_get hl] at hk
  cases hk
  exact zE_at hl _ _ _ _ (hP k _ (cW_get hl))
/-- the state at the start -/
theorem zSt : St0 zI zP (zI 215) := by
  refine ⟨zSim, rfl, ?_, ?_, zI_sn (by decide) (by decide), fun h h0 h1 => ?_, ?_, fun i hi => absurd hi (Nat.not_lt_zero i)⟩
  · funext b
    unfold nrm
    by_cases z : 0 ≤ b ∧ b < 241
    · rw [if_pos z]
    · rw [if_neg z, zI_M (by omega)]
  · intro i j i0 ij j1
    rw [zI_M (by decide)] at j1
    omega
  · rw [zI_sn (by decide) (by decide)] at h1
    omega
  · rw [zI_sn (by decide) (by decide)]
    exact Int.le_refl _
