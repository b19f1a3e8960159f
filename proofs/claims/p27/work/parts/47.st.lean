/-! ST: the state as a row of 241 numbers; what is known of the states before it -/
def nrm (s : Int → Int) : Int → Int := fun b => if 0 ≤ b ∧ b < 241 then s b else 0
theorem nrm_i {s : Int → Int} {b : Int} (h0 : 0 ≤ b) (h1 : b < 241) : nrm s b = s b := if_pos ⟨h0, h1⟩
theorem nrm_c {s t : Int → Int} (h : ∀ b, 0 ≤ b → b < 241 → s b = t b) : nrm s = nrm t := by
  funext b
  unfold nrm
  by_cases z : 0 ≤ b ∧ b < 241
  · rw [if_pos z, if_pos z]
    exact h b z.1 z.2
  · rw [if_neg z, if_neg z]
theorem nrm_n (s : Int → Int) : nrm (nrm s) = nrm s := nrm_c (fun b h0 h1 => nrm_i h0 h1)
/-- the shots ascend -/
def sAs (s : Int → Int) : Prop := ∀ i j : Int, 0 ≤ i → i < j → j < s 1 → s (3 + i) < s (3 + j)
theorem sAs_lo {s t : Int → Int} (h : sAs s) (e1 : t 1 = s 1) (e : ∀ i, 0 ≤ i → i < s 1 → t (3 + i) = s (3 + i)) : sAs t := by
  intro i j i0 ij j1
  rw [e1] at j1
  rw [e i i0 (by omega), e j (by omega) j1]
  exact h i j i0 ij j1
theorem sAs_eq {s t : Int → Int} (h : sAs s) (hn : s 1 ≤ 10) (e : ∀ b, 0 ≤ b → b < 241 → t b = s b) : sAs t := sAs_lo h (e 1 (by decide) (by decide)) (fun i i0 i1 => e _ (by omega) (by omega))
/-- another memory for objects that the heap doesn't hold -/
theorem fws_gh {Γ : fG} {J K : fM} {Q : fN} (h : ∀ a : Nat, a < 214 → K a = J a) : fws Γ 214 K Q = fws Γ 214 J Q := by
  unfold fws
  refine List.map_congr_left (fun k hk => ?_)
  have hk := List.mem_range.mp hk
  unfold flay
  rw [h k hk]
theorem fV_gh {p : Program} {l : Launch} {e : Env} {R : Room} {s : State} {m : MethodId} {args : Array Value} {below : List Frame} {meth : Method} {c : Code} {Q : State → Prop} {A : Nat → Prop} {Γ : fG} {nL kc ks : Nat} {J K : fM} {P : fN} {pc : Nat} {lv : List (Nat × Value)} {st : List Value} (h : ∀ a : Nat, a < 214 → K a = J a) (k : fV p l e R s m args below meth c Q A Γ 214 nL kc ks K P pc lv st) : fV p l e R s m args below meth c Q A Γ 214 nL kc ks J P pc lv st :=
  fun H locs ls hP hS hl => k H locs ls (by rw [fws_gh h]; exact hP) hS hl
/-- a state before the present one: the last, the one before it .. -/
def hTop (I : fM) (i : Nat) : Int → Int := nrm (hRo I (I 0 3 - 1 - (i : Int)))
/-- the state s; of the states before it the last k are known -/
def St (I : fM) (P : fN) (s : Int → Int) (k : Nat) (tp : Nat → Int → Int) : Prop := Sim I P ∧ I 215 = s ∧ nrm s = s ∧ sAs s ∧ I 212 1 = 0 ∧ (∀ h : Int, 0 ≤ h → h < I 0 3 → sAs (hRo I h)) ∧ (k : Int) ≤ I 0 3 ∧ ∀ i : Nat, i < k → tp i = hTop I i
def tcons (s : Int → Int) (tp : Nat → Int → Int) : Nat → Int → Int := fun i => if i = 0 then s else tp (i - 1)
theorem St_q {I J : fM} {P Q : fN} {s : Int → Int} {k : Nat} {tp : Nat → Int → Int} (S : St I P s k tp) (S2 : Sim J Q) (h : ∀ a : Nat, (a = 0 ∨ 62 ≤ a) → J a = I a) : St J Q s k tp := by
  obtain ⟨S0, hs, hn, hA, ht, hh, hkn, htp⟩ := S
  have e0 := h 0 (by omega)
  have e7 := h 217 (by omega)
  refine ⟨S2, by rw [h 215 (by omega)]; exact hs, hn, hA, by rw [h 212 (by omega)]; exact ht, fun g g0 g1 => ?_, by rw [e0]; exact hkn, fun i hi => ?_⟩
  · rw [e0] at g1
    have k := hh g g0 g1
    show sAs (fun b => J 217 (241 * g + b))
    rw [e7]
    exact k
  · rw [htp i hi]
    unfold hTop
    show nrm (fun b => I 217 (241 * (I 0 3 - 1 - (i : Int)) + b)) = nrm (fun b => J 217 (241 * (J 0 3 - 1 - (i : Int)) + b))
    rw [e0, e7]
theorem St_wk {I : fM} {P : fN} {s : Int → Int} {k k2 : Nat} {tp : Nat → Int → Int} (S : St I P s k tp) (h : k2 ≤ k) : St I P s k2 tp := by
  obtain ⟨S0, hs, hn, hA, ht, hh, hkn, htp⟩ := S
  exact ⟨S0, hs, hn, hA, ht, hh, by omega, fun i hi => htp i (by omega)⟩
theorem St_tp {I : fM} {P : fN} {s : Int → Int} {k : Nat} {tp tp2 : Nat → Int → Int} (S : St I P s k tp) (h : ∀ i, i < k → tp2 i = tp i) : St I P s k tp2 := by
  obtain ⟨S0, hs, hn, hA, ht, hh, hkn, htp⟩ := S
  exact ⟨S0, hs, hn, hA, ht, hh, hkn, fun i hi => (h i hi).trans (htp i hi)⟩
/-- an action -/
theorem ac_St {I M J : fM} {P N Q : fN} {s t : Int → Int} {k : Nat} {tp : Nat → Int → Int} (S : St I P s k tp) (hk : k ≤ 4) (r : xRec I P M N) (jm : ∀ a : Nat, 62 ≤ a → J a = M a) (j0 : J 0 3 = M 0 3) (qo : ∀ a : Nat, a ≠ 2 → Q a = N a) (qf : fPa Q) (now : RelK J Q 1 t) (ha : sAs t) : ∃ K : fM, (∀ a : Nat, a < 214 → K a = J a) ∧ St K Q (nrm t) (k + 1) (tcons s tp) := by
  obtain ⟨S0, hs, hn, hA, ht, hh, hkn, htp⟩ := S
  obtain ⟨K, hK⟩ : ∃ K : fM, K = fun a => if a = 215 then nrm t else mAct J a := ⟨_, rfl⟩
  have kj : ∀ a : Nat, a ≠ 215 → K a = mAct J a := fun a h => by rw [hK]; exact if_neg h
  have k5 : K 215 = nrm t := by rw [hK]; exact if_pos rfl
  have kl : ∀ a : Nat, a < 214 → K a = J a := fun a h => by rw [kj a (by omega), mAct_o (by omega) (by omega)]
  have SK : Sim K Q := act_step S0 r jm j0 qo qf kj t now (fun b b0 b1 => by rw [k5]; exact nrm_i b0 b1)
  obtain ⟨c1, c2, c3⟩ := S0.2.1
  have jr := rec_ref S0 r jm
  have am := mAct_ref (I := I) (J := J) jr
  have k7 : K 217 = mAct I 217 := (kj 217 (by decide)).trans (am 217 (by decide))
  have k3 : K 0 3 = xRecN I + 1 := by rw [kl 0 (by decide), j0]; exact r.2.2.1
  have e12 : K 212 1 = 0 := by rw [kl 212 (by decide), jm 212 (by decide), (rec_now S0 r).2.1 212 (by decide) (by omega)]; exact ht
  have last : ∀ b : Int, 0 ≤ b → b < 241 → K 217 (241 * xRecN I + b) = I 215 b := by
    intro b b0 b1
    rw [k7]
    unfold mAct xRecN
    by_cases z : I 0 3 = 5
    · rw [if_pos (by omega), if_pos z, fup_k (by decide), fcpy_at (by omega), fup_k (by decide), fcpy_k (by decide)]
      congr 1
      omega
    · rw [if_neg (by omega), if_neg z, fup_k (by decide), fcpy_at (by omega)]
      congr 1
      omega
  have src : ∀ h : Int, 0 ≤ h → h < xRecN I → ∀ b : Int, 0 ≤ b → b < 241 → K 217 (241 * h + b) = I 217 (241 * (h + (I 0 3 - xRecN I)) + b) := by
    intro h h0 h1 b b0 b1
    rw [k7]
    unfold xRecN at h1 ⊢
    by_cases z : I 0 3 = 5
    · rw [if_pos z] at h1 ⊢
      unfold mAct
      rw [if_pos (by omega), fup_k (by decide), fcpy_o (by omega), fup_k (by decide), fcpy_at (by omega)]
      congr 1
      omega
    · rw [if_neg z] at h1 ⊢
      unfold mAct
      rw [if_neg (by omega), fup_k (by decide), fcpy_o (by omega)]
      congr 1
      omega
  have xn : (I 0 3 = 5 ∧ xRecN I = 4) ∨ (I 0 3 ≠ 5 ∧ xRecN I = I 0 3) := by
    unfold xRecN
    by_cases z : I 0 3 = 5
    · rw [if_pos z]; exact Or.inl ⟨z, rfl⟩
    · rw [if_neg z]; exact Or.inr ⟨z, rfl⟩
  have s10 : s 1 ≤ 10 := by rw [← hs]; exact S0.1.2.1.1.2.1.2
  refine ⟨K, kl, SK, k5, nrm_n t, ?_, e12, fun h h0 h1 => ?_, ?_, fun i hi => ?_⟩
  · exact sAs_eq ha now.2.1.1.2.1.2 (fun b b0 b1 => nrm_i b0 b1)
  · by_cases z : h = xRecN I
    · subst z
      exact sAs_eq hA s10 (fun b b0 b1 => (last b b0 b1).trans (by rw [hs]))
    · have g1 : h < xRecN I := by omega
      have kk := S0.2.2.1 (h + (I 0 3 - xRecN I)) (by omega) (by omega)
      exact sAs_eq (hh (h + (I 0 3 - xRecN I)) (by omega) (by omega)) kk.2.1.1.2.1.2 (fun b b0 b1 => src h h0 g1 b b0 b1)
  · rw [k3]; omega
  · unfold hTop tcons
    rw [k3]
    by_cases z : i = 0
    · subst z
      rw [if_pos rfl, ← hn]
      refine nrm_c (fun b b0 b1 => ?_)
      show s b = K 217 (241 * (xRecN I + 1 - 1 - ((0 : Nat) : Int)) + b)
      rw [show xRecN I + 1 - 1 - ((0 : Nat) : Int) = xRecN I by omega, last b b0 b1, hs]
    · rw [if_neg z, htp (i - 1) (by omega)]
      unfold hTop
      refine nrm_c (fun b b0 b1 => ?_)
      show I 217 (241 * (I 0 3 - 1 - ((i - 1 : Nat) : Int)) + b) = K 217 (241 * (xRecN I + 1 - 1 - (i : Int)) + b)
      rw [show xRecN I + 1 - 1 - (i : Int) = xRecN I - (i : Int) by omega, src (xRecN I - (i : Int)) (by omega) (by omega) b b0 b1]
      congr 1
      omega
/-- undo -/
theorem un_St {I J : fM} {P Q : fN} {s : Int → Int} {k : Nat} {tp : Nat → Int → Int} {v : Option Value} (S : St I P s (k + 1) tp) (h : (1 ≤ I 0 3 ∧ v = some (.int (i32 (I 0 3 - 1))) ∧ vEq I P (P 61 (I 0 3 - 1)) J P 1 ∧ fOut (fup I 0 3 (I 0 3 - 1)) J 1 ∧ Q = P) ∨ (¬ 1 ≤ I 0 3 ∧ v = some (.int (i32 (-12))) ∧ J = I ∧ Q = P)) : ∃ K : fM, (∀ a : Nat, a < 214 → K a = J a) ∧ St K Q (tp 0) k (fun i => tp (i + 1)) ∧ ∃ n : Int, v = some (.int (i32 n)) ∧ 0 ≤ n ∧ n ≤ 4 := by
  obtain ⟨S0, hs, hn, hA, ht, hh, hkn, htp⟩ := S
  obtain ⟨-, -, S2⟩ := st_undo S0 h
  obtain ⟨c1, c2, c3⟩ := S0.2.1
  rcases h with ⟨h1, hv, hve, ho, rfl⟩ | ⟨h1, -⟩
  · have jo : ∀ a : Nat, a ≠ 0 → (a < 1 ∨ 31 ≤ a) → J a = I a := fun a a0 ha => by rw [ho a (by omega), fup_ne a0]
    have j3 : J 0 3 = I 0 3 - 1 := by rw [ho 0 (by omega), fup_s]
    have e4 := jo 214 (by decide) (by omega)
    have e7 := jo 217 (by decide) (by omega)
    have hg : gMUndo J = fcpy (fup J 214 4 (I 0 3 - 1)) 217 (241 * (I 0 3 - 1)) 215 0 241 := by
      unfold gMUndo
      rw [e4, if_neg (by omega), c1]
    obtain ⟨G, hG⟩ : ∃ G, G = gMUndo J := ⟨_, rfl⟩
    rw [← hG] at S2
    rw [hg] at hG
    have go : ∀ a : Nat, a ≠ 214 → a ≠ 215 → G a = J a := fun a h1 h2 => by rw [hG, fcpy_ne h2, fup_ne h1]
    have g5 : ∀ b : Int, 0 ≤ b → b < 241 → G 215 b = hRo I (I 0 3 - 1) b := fun b b0 b1 => by
      rw [hG, fcpy_at (by omega), fup_k (by decide), e7]
      show I 217 _ = I 217 _
      congr 1
      omega
    obtain ⟨K, hK⟩ : ∃ K : fM, K = fun a => if a = 215 then nrm (G 215) else G a := ⟨_, rfl⟩
    have ko : ∀ a : Nat, a ≠ 215 → K a = G a := fun a h => by rw [hK]; exact if_neg h
    have k5 : K 215 = nrm (G 215) := by rw [hK]; exact if_pos rfl
    have SK : Sim K Q := Sim_k S2 (kEq_of (fun a ha => ko a (by omega))) ⟨fun b _ => by rw [ko 214 (by decide)], fun b b0 b1 => by rw [k5]; exact nrm_i b0 b1, fun b _ _ => by rw [ko 217 (by decide)], ko 218 (by decide)⟩
    have k3 : K 0 3 = I 0 3 - 1 := by rw [ko 0 (by decide), go 0 (by decide) (by decide)]; exact j3
    have k7 : K 217 = I 217 := by rw [ko 217 (by decide), go 217 (by decide) (by decide)]; exact e7
    have t0 : K 215 = tp 0 := by
      rw [k5, htp 0 (by omega)]
      unfold hTop
      refine nrm_c (fun b b0 b1 => ?_)
      rw [g5 b b0 b1, show I 0 3 - 1 - ((0 : Nat) : Int) = I 0 3 - 1 by omega]
    have kk := S0.2.2.1 (I 0 3 - 1) (by omega) (by omega)
    refine ⟨K, fun a ha => by rw [ko a (by omega)]; exact go a (by omega) (by omega), ⟨SK, t0, ?_, ?_, ?_, fun g g0 g1 => ?_, ?_, fun i hi => ?_⟩, I 0 3 - 1, hv, by omega, by omega⟩
    · rw [← t0, k5]
      exact nrm_n _
    · rw [← t0]
      exact sAs_eq (hh (I 0 3 - 1) (by omega) (by omega)) kk.2.1.1.2.1.2 (fun b b0 b1 => by rw [k5, nrm_i b0 b1]; exact g5 b b0 b1)
    · rw [ko 212 (by decide), go 212 (by decide) (by decide), jo 212 (by decide) (by omega)]
      exact ht
    · rw [k3] at g1
      show sAs (fun b => K 217 (241 * g + b))
      rw [k7]
      exact hh g g0 (by omega)
    · rw [k3]; omega
    · show tp (i + 1) = hTop K i
      rw [htp (i + 1) (by omega)]
      unfold hTop
      show nrm (fun b => I 217 (241 * (I 0 3 - 1 - ((i + 1 : Nat) : Int)) + b)) = nrm (fun b => K 217 (241 * (K 0 3 - 1 - (i : Int)) + b))
      rw [k7, k3, show I 0 3 - 1 - ((i + 1 : Nat) : Int) = I 0 3 - 1 - 1 - (i : Int) by omega]
  · omega
