/-! SIM: the class's state is the reference's -/
abbrev hRo (I : fM) (h : Int) : Int → Int := fun b => I 217 (241 * h + b)
abbrev rOkk (s : Int → Int) : Prop := mOkr s ∧ sDi s
/-- a scene of a memory is a row, and a row that can be -/
def RelK (I : fM) (P : fN) (sc : Nat) (s : Int → Int) : Prop := Rel I P sc s ∧ mOkr s ∧ sDi s
def Sim (I : fM) (P : fN) : Prop := RelK I P 1 (I 215) ∧ (I 0 3 = I 214 4 ∧ 0 ≤ I 0 3 ∧ I 0 3 ≤ 5) ∧ (∀ h : Int, 0 ≤ h → h < I 0 3 → RelK I P (P 61 h) (hRo I h)) ∧ (I 213 = I 218 ∧ I 212 1 = I 214 6 ∧ (0 ≤ I 212 1 ∧ I 212 1 ≤ 160) ∧ tOk (I 213) (I 212 1)) ∧ fPa P ∧ fHs P ∧ I 214 0 = 0
theorem RelK_row {I : fM} {P : fN} {sc : Nat} {s t : Int → Int} (h : RelK I P sc s) (e : ∀ b, 0 ≤ b → b < 241 → t b = s b) : RelK I P sc t := ⟨Rel_row h.1 e h.2.1, mOkr_eq h.2.1 e, sDi_eq h.2.2 h.2.1.1.2.1.2 e⟩
theorem RelK_eq {I J : fM} {P Q : fN} {sc : Nat} {s : Int → Int} (hp : fPs P sc) (hq : Q (sc + 1) = P (sc + 1)) (h0 : J sc = I sc) (h2 : J (sc + 2) = I (sc + 2)) (hw : ∀ a : Nat, sc + 6 ≤ a → a < sc + 30 → J a = I a) (h : RelK I P sc s) : RelK J Q sc s := ⟨Rel_eq hp hq h.2.1.1.1.2 h0 h2 hw h.1, h.2⟩
theorem Sim_all {I : fM} {P : fN} (S : Sim I P) : xAll I P := by
  obtain ⟨⟨s1, s2, s3⟩, ⟨c1, c2⟩, hh, ⟨t1, t2, t3, t4⟩, p1, p2, p3⟩ := S
  exact ⟨Rel_ok s1 s2 s3, p1, p2, fun j j0 j1 => Rel_ok (hh j j0 j1).1 (hh j j0 j1).2.1 (hh j j0 j1).2.2, c2, t3⟩
/-- the reference's objects are the same -/
def rEq (I J : fM) : Prop := (∀ b : Int, (b = 0 ∨ b = 4 ∨ b = 6) → J 214 b = I 214 b) ∧ (∀ b : Int, 0 ≤ b → b < 241 → J 215 b = I 215 b) ∧ (∀ b : Int, 0 ≤ b → b < 1205 → J 217 b = I 217 b) ∧ J 218 = I 218
/-- the class's objects that count are the same -/
def kEq (I J : fM) : Prop := (∀ a : Nat, (a = 0 ∨ a = 1 ∨ a = 3 ∨ (7 ≤ a ∧ a < 31) ∨ (62 ≤ a ∧ a < 212) ∨ a = 213) → J a = I a) ∧ J 212 1 = I 212 1
theorem rEq_r (I : fM) : rEq I I := ⟨fun _ _ => rfl, fun _ _ _ => rfl, fun _ _ _ => rfl, rfl⟩
theorem kEq_r (I : fM) : kEq I I := ⟨fun _ _ => rfl, rfl⟩
theorem rEq_of {I J : fM} (h : ∀ a : Nat, 214 ≤ a → J a = I a) : rEq I J := ⟨fun b _ => by rw [h 214 (by decide)], fun b _ _ => by rw [h 215 (by decide)], fun b _ _ => by rw [h 217 (by decide)], h 218 (by decide)⟩
theorem kEq_of {I J : fM} (h : ∀ a : Nat, a < 214 → J a = I a) : kEq I J := ⟨fun a ha => h a (by omega), by rw [h 212 (by decide)]⟩
theorem rEq_tr {I J K : fM} (h : rEq I J) (k : rEq J K) : rEq I K := ⟨fun b hb => (k.1 b hb).trans (h.1 b hb), fun b b0 b1 => (k.2.1 b b0 b1).trans (h.2.1 b b0 b1), fun b b0 b1 => (k.2.2.1 b b0 b1).trans (h.2.2.1 b b0 b1), k.2.2.2.trans h.2.2.2⟩
theorem kEq_tr {I J K : fM} (h : kEq I J) (k : kEq J K) : kEq I K := ⟨fun a ha => (k.1 a ha).trans (h.1 a ha), k.2.trans h.2⟩
theorem kEq_t {I J : fM} (h : tEq I J 1) : kEq I J := ⟨fun a ha => h a (by omega) (by omega), by rw [h 212 (by decide) (by decide)]⟩
theorem kEq_d {I J : fM} (h : oEq I J 31) : kEq I J := ⟨fun a ha => h.1 a (by omega) (by omega), h.2 1 (by decide) (by decide) (by decide)⟩
theorem rEq_t {I J : fM} (h : tEq I J 1) : rEq I J := rEq_of (fun a ha => h a (by omega) (by omega))
theorem rEq_d {I J : fM} (h : oEq I J 31) : rEq I J := rEq_of (fun a ha => h.1 a (by omega) (by omega))
theorem rEq_z {I J : fM} (h : zEq I J) : rEq I J := ⟨fun b _ => by rw [h 214 (by decide) (by decide)], fun b _ _ => by rw [h 215 (by decide) (by decide)], fun b _ _ => by rw [h 217 (by decide) (by decide)], h 218 (by decide) (by decide)⟩
theorem kEq_z {I J : fM} (h : zEq I J) : kEq I J := kEq_of (fun a ha => h a (by omega) (by omega))
theorem rEq_rd {I J : fM} (h : rdZ I J) : rEq I J := ⟨fun b hb => h.2 b (by omega), fun b _ _ => by rw [h.1 215 (by decide) (by decide) (by decide)], fun b _ _ => by rw [h.1 217 (by decide) (by decide) (by decide)], h.1 218 (by decide) (by decide) (by decide)⟩
theorem kEq_rd {I J : fM} (h : rdZ I J) : kEq I J := kEq_of (fun a ha => h.1 a (by omega) (by omega) (by omega))
theorem Sim_k {I J : fM} {P : fN} (S : Sim I P) (k : kEq I J) (r : rEq I J) : Sim J P := by
  obtain ⟨s1, ⟨c1, c2⟩, hh, ⟨t1, t2, t3, t4⟩, p1, p2, p3⟩ := S
  obtain ⟨k1, k2⟩ := k
  obtain ⟨r1, r2, r3, r4⟩ := r
  have e3 : J 0 3 = I 0 3 := by rw [k1 0 (by omega)]
  have e13 : J 213 = I 213 := k1 213 (by omega)
  refine ⟨?_, ⟨by rw [e3, r1 4 (by omega)]; exact c1, by rw [e3]; exact c2⟩, fun h h0 h1 => ?_, ⟨by rw [e13, r4]; exact t1, by rw [k2, r1 6 (by omega)]; exact t2, by rw [k2]; exact t3, by rw [k2, e13]; exact t4⟩, p1, p2, by rw [r1 0 (by omega)]; exact p3⟩
  · exact RelK_row (RelK_eq (p1 1 fSc_1) rfl (k1 1 (by omega)) (k1 3 (by omega)) (fun a a0 a1 => k1 a (by omega)) s1) r2
  · rw [e3] at h1
    have b := fHs_b p2 h0 (by omega)
    exact RelK_row (RelK_eq (p1 _ (fHs_s p2 h0 (by omega))) rfl (k1 _ (by omega)) (k1 _ (by omega)) (fun a a0 a1 => k1 a (by omega)) (hh h h0 h1)) (fun q q0 q1 => r3 _ (by omega) (by omega))
/-- what is kept of the scenes that were -/
theorem act_hist {I M K : fM} {P N Q : fN} (S : Sim I P) (r : xRec I P M N) (kh : ∀ a : Nat, 62 ≤ a → a < 212 → K a = M a) (k03 : K 0 3 = M 0 3) (q61 : Q 61 = N 61) (qs : ∀ sc : Nat, 62 ≤ sc → Q (sc + 1) = N (sc + 1)) (k4 : K 214 4 = mAct I 214 4) (k7 : ∀ b : Int, 0 ≤ b → b < 1205 → K 217 b = mAct I 217 b) : (K 0 3 = K 214 4 ∧ 0 ≤ K 0 3 ∧ K 0 3 ≤ 5) ∧ ∀ h : Int, 0 ≤ h → h < K 0 3 → RelK K Q (Q 61 h) (hRo K h) := by
  obtain ⟨s1, ⟨c1, c2⟩, hh, -, p1, p2, p3⟩ := S
  obtain ⟨hN, hve, hM3, hM0, hMo⟩ := r
  have nb := xRecN_b c2
  have hhs : fHs N := by rw [hN]; exact xRecP_hs p2
  have hpa : fPa N := by rw [hN]; exact xRecP_pa p1
  have nb2 := fHs_b hhs nb.1 nb.2
  have e4 : mAct I 214 4 = xRecN I + 1 := by
    unfold mAct xRecN
    by_cases z : I 0 3 = 5
    · rw [if_pos (by omega), if_pos z, fup_s]
      rfl
    · rw [if_neg (by omega), if_neg z, fup_s]
      omega
  have eK3 : K 0 3 = xRecN I + 1 := k03.trans hM3
  -- the row of a kept scene, and where it was
  have src : ∀ h : Int, 0 ≤ h → h < xRecN I → ∃ g : Int, (0 ≤ g ∧ g < I 0 3) ∧ N 61 h = P 61 g ∧ ∀ b : Int, 0 ≤ b → b < 241 → K 217 (241 * h + b) = I 217 (241 * g + b) := by
    intro h h0 h1
    unfold xRecN at h1
    by_cases z : I 0 3 = 5
    · rw [if_pos z] at h1
      refine ⟨h + 1, by omega, ?_, fun b b0 b1 => ?_⟩
      · rw [hN]
        unfold xRecP
        rw [if_pos z, pRot_i]
        unfold pRi
        rw [if_neg (by omega), if_pos (by omega)]
      · rw [k7 _ (by omega) (by omega)]
        unfold mAct
        rw [if_pos (by omega), fup_k (by decide), fcpy_o (by omega), fup_k (by decide), fcpy_at (by omega)]
        congr 1
        omega
    · rw [if_neg z] at h1
      refine ⟨h, by omega, ?_, fun b b0 b1 => ?_⟩
      · rw [hN]
        unfold xRecP
        rw [if_neg z]
      · rw [k7 _ (by omega) (by omega)]
        unfold mAct
        rw [if_neg (by omega), fup_k (by decide), fcpy_o (by omega)]
  have last : ∀ b : Int, 0 ≤ b → b < 241 → K 217 (241 * xRecN I + b) = I 215 b := by
    intro b b0 b1
    rw [k7 _ (by omega) (by omega)]
    unfold mAct xRecN
    by_cases z : I 0 3 = 5
    · rw [if_pos (by omega), if_pos z, fup_k (by decide), fcpy_at (by omega), fup_k (by decide), fcpy_k (by decide)]
      congr 1
      omega
    · rw [if_neg (by omega), if_neg z, fup_k (by decide), fcpy_at (by omega)]
      congr 1
      omega
  refine ⟨⟨by rw [eK3, k4, e4], by omega, by omega⟩, fun h h0 h1 => ?_⟩
  rw [q61]
  have hb := fHs_b hhs h0 (by omega)
  have hsc := fHs_s hhs h0 (by omega)
  by_cases e : h = xRecN I
  · subst e
    have k : RelK M N (N 61 (xRecN I)) (I 215) := ⟨Rel_v s1.2.1 s1.1 hve, s1.2⟩
    exact RelK_row (RelK_eq (hpa _ hsc) (qs _ (by omega)) (kh _ (by omega) (by omega)) (kh _ (by omega) (by omega)) (fun a a0 a1 => kh a (by omega) (by omega)) k) (fun b b0 b1 => last b b0 b1)
  · obtain ⟨g, hg, eg, er⟩ := src h h0 (by omega)
    have k := hh g hg.1 hg.2
    rw [← eg] at k
    have ap : N 61 h + 30 ≤ N 61 (xRecN I) ∨ N 61 (xRecN I) + 30 ≤ N 61 h := by
      have hne : N 61 h ≠ N 61 (xRecN I) := fun z => e (hhs.2 _ _ h0 (by omega) nb.1 nb.2 z)
      exact fSc_dis hsc (fHs_s hhs nb.1 nb.2) hne
    have kM : ∀ a : Nat, N 61 h ≤ a → a < N 61 h + 30 → K a = I a := fun a a0 a1 => (kh a (by omega) (by omega)).trans (hMo a (by omega) (by omega))
    have eq : Q (N 61 h + 1) = P (N 61 h + 1) := by
      have hne : N 61 h + 1 ≠ 61 := by omega
      exact (qs _ (by omega)).trans ((congrFun hN _).trans (xRecP_o hne))
    exact RelK_row (RelK_eq (p1 _ hsc) eq (kM _ (by omega) (by omega)) (kM _ (by omega) (by omega)) (fun a a0 a1 => kM a (by omega) (by omega)) k) (fun b b0 b1 => er b b0 b1)
/-- the scene kept, the present one is what it was -/
theorem rec_now {I M : fM} {P N : fN} (S : Sim I P) (r : xRec I P M N) : RelK M N 1 (I 215) ∧ (∀ a : Nat, a ≠ 0 → (a < 62 ∨ 212 ≤ a) → M a = I a) ∧ N 2 = P 2 ∧ fPa N ∧ fHs N := by
  obtain ⟨s1, ⟨c1, c2⟩, hh, -, p1, p2, p3⟩ := S
  have o : ∀ a : Nat, a ≠ 0 → (a < 62 ∨ 212 ≤ a) → M a = I a := fun a h0 h1 => xRec_o p2 c2 r h0 h1
  exact ⟨RelK_eq (p1 1 fSc_1) (xRec_2 r) (o 1 (by decide) (by decide)) (o 3 (by decide) (by decide)) (fun a a0 a1 => o a (by omega) (by omega)) s1, o, xRec_2 r, xRec_p p1 r, by rw [r.1]; exact xRecP_hs p2⟩
/-- an action that changes the present scene alone -/
theorem act_sim {I M K : fM} {P N Q : fN} (S : Sim I P) (r : xRec I P M N) (kh : ∀ a : Nat, (62 ≤ a ∧ a < 214) → K a = M a) (k03 : K 0 3 = M 0 3) (qo : ∀ a : Nat, a ≠ 2 → Q a = N a) (qf : fPa Q) (km : ∀ a : Nat, 214 ≤ a → a ≠ 215 → a ≠ 216 → a ≠ 219 → K a = mAct I a) (now : RelK K Q 1 (K 215)) : Sim K Q := by
  obtain ⟨hist1, hist2⟩ := act_hist S r (fun a a0 a1 => kh a (by omega)) k03 (qo 61 (by decide)) (fun sc h => qo _ (by omega)) (by rw [km 214 (by decide) (by decide) (by decide) (by decide)]) (fun b _ _ => by rw [km 217 (by decide) (by decide) (by decide) (by decide)])
  obtain ⟨n1, n2, n3, n4, n5⟩ := rec_now S r
  obtain ⟨-, -, -, ⟨t1, t2, t3, t4⟩, -, -, p3⟩ := S
  have e13 : K 213 = I 213 := (kh 213 (by omega)).trans (n2 213 (by decide) (by decide))
  have e12 : K 212 = I 212 := (kh 212 (by omega)).trans (n2 212 (by decide) (by decide))
  have e18 : K 218 = I 218 := by rw [km 218 (by decide) (by decide) (by decide) (by decide)]; exact mAct_o (by decide) (by decide)
  have e14 : ∀ b : Int, b ≠ 4 → K 214 b = I 214 b := fun b hb => by rw [km 214 (by decide) (by decide) (by decide) (by decide)]; exact mAct_4 hb
  refine ⟨now, hist1, hist2, ⟨by rw [e13, e18]; exact t1, by rw [e12, e14 6 (by decide)]; exact t2, by rw [e12]; exact t3, by rw [e13, e12]; exact t4⟩, qf, ?_, by rw [e14 0 (by decide)]; exact p3⟩
  unfold fHs
  rw [qo 61 (by decide)]
  exact n5
