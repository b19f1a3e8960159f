/-! ACTS: both sides act alike -/
theorem mAct_ref {I J : fM} (h : ∀ a : Nat, 214 ≤ a → J a = I a) : ∀ a : Nat, 214 ≤ a → mAct J a = mAct I a := by
  have e4 : J 214 = I 214 := h _ (by decide)
  have e5 : J 215 = I 215 := h _ (by decide)
  have e7 : J 217 = I 217 := h _ (by decide)
  intro a h1
  have ea := h a h1
  funext b
  unfold mAct
  rw [e4]
  split
  · unfold fup fcpy
    simp only [e4, e5, e7, ea]
  · unfold fup fcpy
    simp only [e4, e5, e7, ea]
theorem mOk_of {I J : fM} {P : fN} (S : Sim I P) (e4 : J 214 = I 214) (e5 : J 215 = I 215) : mOk J := by
  obtain ⟨⟨s1, s2, s3⟩, ⟨c1, c2⟩, hh, ⟨t1, t2, t3, t4⟩, p1, p2, p3⟩ := S
  exact ⟨mOkr_sv e5 s2, mOkr_wv e5 s2, by rw [e4]; exact p3, by rw [e4, ← c1]; exact c2, by rw [e4, ← t2]; exact t3⟩
theorem act_step {I M J K : fM} {P N Q : fN} (S : Sim I P) (r : xRec I P M N) (jm : ∀ a : Nat, 62 ≤ a → J a = M a) (j0 : J 0 3 = M 0 3) (qo : ∀ a : Nat, a ≠ 2 → Q a = N a) (qf : fPa Q) (kj : ∀ a : Nat, a ≠ 215 → K a = mAct J a) (t : Int → Int) (now : RelK J Q 1 t) (kt : ∀ b : Int, 0 ≤ b → b < 241 → K 215 b = t b) : Sim K Q := by
  obtain ⟨n1, n2, n3, n4, n5⟩ := rec_now S r
  have jr : ∀ a : Nat, 214 ≤ a → J a = I a := fun a ha => (jm a (by omega)).trans (n2 a (by omega) (by omega))
  have kl : ∀ a : Nat, a < 214 → K a = J a := fun a ha => by rw [kj a (by omega), mAct_o (by omega) (by omega)]
  refine act_sim S r (fun a ha => (kl a ha.2).trans (jm a ha.1)) (by rw [kl 0 (by decide)]; exact j0) qo qf (fun a h1 h2 h3 h4 => (kj a h2).trans (mAct_ref jr a h1)) ?_
  exact RelK_row (RelK_eq (qf 1 fSc_1) rfl (kl 1 (by decide)) (kl 3 (by decide)) (fun a a0 a1 => kl a (by omega)) now) kt
/-- where nothing was done -/
theorem no_step {I : fM} {P : fN} (S : Sim I P) : Sim I P := S
theorem xAct_no {I J : fM} {P Q : fN} {ok : Prop} {F : fM → fN → Prop} (h : xAct I P J Q ok F) (hn : ¬ ok) : J = I ∧ Q = P := by
  rcases h with h | h
  · exact absurd h.1 hn
  · exact h.2
theorem xAct_yes {I J : fM} {P Q : fN} {ok : Prop} {F : fM → fN → Prop} (h : xAct I P J Q ok F) (hy : ok) : ∃ M N, xRec I P M N ∧ F M N := by
  rcases h with h | h
  · exact h.2
  · exact absurd hy h.1
/-- the reference's objects behind an action of the class -/
theorem rec_ref {I M J : fM} {P N : fN} (S : Sim I P) (r : xRec I P M N) (jm : ∀ a : Nat, 62 ≤ a → J a = M a) : ∀ a : Nat, 214 ≤ a → J a = I a := fun a ha => (jm a (by omega)).trans ((rec_now S r).2.1 a (by omega) (by omega))
/-- addWord -/
theorem mMake_o {M : fM} {l f sp h w b : Int} (h0 : 0 ≤ M 215 0) (hb : ¬ (13 + 19 * M 215 0 + 7 ≤ b ∧ b < 13 + 19 * M 215 0 + 7 + l)) (T : Int → Int) (a : Int) : mMake M l f sp h w 215 b = rWord T (M 215) a l f sp h w b := by
  unfold rWord mMake
  rw [if_neg hb]
  by_cases z0 : b = 0
  · subst z0
    rw [fup_s, if_pos rfl]
  rw [fup_j z0, if_neg z0]
  by_cases z1 : b = 13 + 19 * M 215 0 + 0
  · rw [fup_j (by omega), fup_j (by omega), fup_j (by omega), fup_j (by omega), fup_j (by omega), if_pos z1, z1, fup_s]
  rw [if_neg z1]
  by_cases z2 : b = 13 + 19 * M 215 0 + 1
  · rw [fup_j (by omega), fup_j (by omega), fup_j (by omega), fup_j (by omega), if_pos z2, z2, fup_s]
  rw [if_neg z2]
  by_cases z3 : b = 13 + 19 * M 215 0 + 2
  · rw [fup_j (by omega), fup_j (by omega), fup_j (by omega), if_pos z3, z3, fup_s]
  rw [if_neg z3]
  by_cases z4 : b = 13 + 19 * M 215 0 + 3
  · rw [fup_j (by omega), fup_j (by omega), if_pos z4, z4, fup_s]
  rw [if_neg z4]
  by_cases z5 : b = 13 + 19 * M 215 0 + 4
  · rw [fup_j (by omega), if_pos z5, z5, fup_s]
  rw [if_neg z5]
  by_cases z6 : b = 13 + 19 * M 215 0 + 5
  · rw [if_pos z6, z6, fup_s]
  rw [if_neg z6]
  by_cases z7 : b = 13 + 19 * M 215 0 + 6
  · rw [fup_j z6, fup_j z5, fup_j z4, fup_j z3, fup_j z2, fup_j z1, if_pos z7, z7, fup_s]
  rw [if_neg z7, fup_j z6, fup_j z5, fup_j z4, fup_j z3, fup_j z2, fup_j z1, fup_j z7]
theorem rWord_let {M : fM} {l f sp h w : Int} (h0 : 0 ≤ M 215 0) : mLet (mMake M l f sp h w) 215 (13 + 19 * M 215 0 + 7) l 215 = rWord (fun i => 97 + i) (M 215) 0 l f sp h w := by
  funext b
  by_cases hb : 13 + 19 * M 215 0 + 7 ≤ b ∧ b < 13 + 19 * M 215 0 + 7 + l
  · unfold mLet rWord
    rw [if_pos ⟨rfl, hb⟩, if_pos hb]
    show _ = 97 + (0 + (b - (13 + 19 * M 215 0 + 7)))
    omega
  · rw [← mMake_o h0 hb]
    unfold mLet
    rw [if_neg (fun z => hb z.2)]
theorem Rel_app {I : fM} {P : fN} {sc : Nat} {s : Int → Int} {l f sp h w : Int} (hr : Rel I P sc s) (hv : mOkr s) (hs : fSc sc) (hp : fPs P sc) (hl : 1 ≤ l ∧ l ≤ 12) (h12 : s 0 < 12) : Rel (xApp I P sc l f sp h w) P sc (rWord (fun i => 97 + i) s 0 l f sp h w) := by
  obtain ⟨hs0, -⟩ := fSc_k hs
  have h0 := hv.1.1.1
  have r1 : I sc 1 = s 0 := hr.1
  obtain ⟨j, hj, e⟩ := hp.1 (s 0) h0 h12
  have ex2 : ∀ (a : Nat), a ≠ P (sc + 1) (s 0) → a ≠ P (sc + 1) (s 0) + 1 → ∀ b : Int, ¬ (a = sc ∧ b = 1) → xApp I P sc l f sp h w a b = I a b := fun a h1 h2 b h3 => by
    unfold xApp
    rw [r1]
    by_cases z : a = sc
    · subst z
      rw [fup_j (fun y => h3 ⟨rfl, y⟩), fup_k h1, fup_k h1, fup_k h1, fup_k h1, fup_k h1, fup_k h1, mLet_k h2]
    · rw [fup_k z, fup_k h1, fup_k h1, fup_k h1, fup_k h1, fup_k h1, fup_k h1, mLet_k h2]
  have ne1 : P (sc + 1) (s 0) ≠ P (sc + 1) (s 0) + 1 := by omega
  have fld : ∀ b : Int, xApp I P sc l f sp h w (P (sc + 1) (s 0)) b = fup (fup (fup (fup (fup (fup I (P (sc + 1) (s 0)) 1 l) (P (sc + 1) (s 0)) 2 f) (P (sc + 1) (s 0)) 3 sp) (P (sc + 1) (s 0)) 4 h) (P (sc + 1) (s 0)) 5 w) (P (sc + 1) (s 0)) 6 0 (P (sc + 1) (s 0)) b := fun b => by
    unfold xApp
    rw [r1, fup_k (by omega)]
    unfold fup
    rw [mLet_k ne1]
  refine Rel_new hr hv hp hl h12 ?_ (ex2 sc (by omega) (by omega) 3 (by omega)) (ex2 sc (by omega) (by omega) 4 (by omega)) ?_ (fun v v0 v1 => ?_) ?_ ?_ ?_ ?_ ?_ ?_ (fun q q0 q1 => ?_)
  · unfold xApp
    rw [r1, fup_s]
  · funext b
    exact ex2 (sc + 2) (by omega) (by omega) b (by omega)
  · obtain ⟨j2, hj2, e2⟩ := hp.1 v v0 (by omega)
    have hne : P (sc + 1) v ≠ P (sc + 1) (s 0) := fun z => by
      have := hp.2 v (s 0) v0 (by omega) h0 h12 z
      omega
    exact ⟨funext fun b => ex2 _ hne (by omega) b (by omega), funext fun b => ex2 _ (by omega) (by omega) b (by omega)⟩
  · rw [fld, fup_j (by decide), fup_j (by decide), fup_j (by decide), fup_j (by decide), fup_j (by decide), fup_s]
  · rw [fld, fup_j (by decide), fup_j (by decide), fup_j (by decide), fup_j (by decide), fup_s]
  · rw [fld, fup_j (by decide), fup_j (by decide), fup_j (by decide), fup_s]
  · rw [fld, fup_j (by decide), fup_j (by decide), fup_s]
  · rw [fld, fup_j (by decide), fup_s]
  · rw [fld, fup_s]
  · unfold xApp
    rw [r1, fup_k (by omega), fup_k (by omega), fup_k (by omega), fup_k (by omega), fup_k (by omega), fup_k (by omega), fup_k (by omega)]
    unfold mLet
    rw [if_pos ⟨rfl, q0, by omega⟩]
    omega
theorem st_add {I J : fM} {P Q : fN} {le f sp he way : Int} (S : Sim I P) (h : xAct I P J Q (addV le f sp he way ∧ I 1 1 ≠ 12) (fun M N => J = xApp M N 1 le f sp he way ∧ Q = N)) : mOk J ∧ qXAdd I le f sp he way = qMAdd J le f sp he way ∧ Sim (gMAdd J le f sp he way) Q := by
  have c0 : I 1 1 = I 215 0 := S.1.1.1
  have b0 := S.1.2.1.1.1
  by_cases ok : addV le f sp he way ∧ I 1 1 ≠ 12
  · obtain ⟨M, N, r, hJ, hQ⟩ := xAct_yes h ok
    obtain ⟨n1, n2, n3, n4, n5⟩ := rec_now S r
    have hpN := n4 1 fSc_1
    have eM1 : M 1 1 = I 215 0 := by rw [n2 1 (by decide) (by decide)]; exact c0
    obtain ⟨j, hj, ej⟩ := hpN.1 (I 215 0) b0.1 (by omega)
    have jo : ∀ a : Nat, (a < 1 ∨ 31 ≤ a) → J a = M a := fun a ha => by rw [hJ]; exact xApp_o fSc_1 hpN (by omega) (by omega)
    have jr := rec_ref S r (fun a ha => jo a (by omega))
    have e5 := jr 215 (by decide)
    have ad := ok.1
    have a5 : mAct J 215 = I 215 := by rw [mAct_o (by decide) (by decide)]; exact e5
    subst hQ
    refine ⟨mOk_of S (jr 214 (by decide)) e5, ?_, ?_⟩
    · unfold qXAdd qMAdd
      rw [e5, c0]
    · unfold gMAdd
      rw [if_pos ⟨ad, by rw [e5]; omega⟩]
      refine act_step S r (fun a ha => jo a (by omega)) (by rw [jo 0 (by decide)]) (fun _ _ => rfl) n4 (fun a ha => ?_) (rWord (fun i => 97 + i) (I 215) 0 le f sp he way) ?_ (fun b _ _ => ?_)
      · rw [mLet_k ha]
        unfold mMake
        rw [fup_ne ha, fup_ne ha, fup_ne ha, fup_ne ha, fup_ne ha, fup_ne ha, fup_ne ha, fup_ne ha]
      · rw [hJ]
        exact ⟨Rel_app n1.1 n1.2.1 fSc_1 hpN ad.1 (by omega), mOkr_word n1.2.1 (by omega) ad.1 ad.2.1 ad.2.2.1 ad.2.2.2.1 ad.2.2.2.2, sDi_word n1.2.2 n1.2.1 ad.1.1⟩
      · have k := rWord_let (M := mAct J) (l := le) (f := f) (sp := sp) (h := he) (w := way) (by rw [a5]; exact b0.1)
        rw [a5] at k
        rw [e5, k]
  · obtain ⟨rfl, rfl⟩ := xAct_no h ok
    refine ⟨mOk_of S rfl rfl, ?_, ?_⟩
    · unfold qXAdd qMAdd
      rw [c0]
    · unfold gMAdd
      rw [if_neg (by rw [← c0]; exact ok)]
      exact S
